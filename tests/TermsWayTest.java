import java.util.Arrays;
import java.util.Random;

/** 'Terms', THE WAY HOME: its four stages, none of them, and the first of ways equally short. */
public final class TermsWayTest {
  private static final Random RANDOM = new Random(7);

  public static void main(String[] args) {
    Due due = new Due();
    emptyWay(due);
    oneStageAlone(due);
    fewestTurnsOfOneTurn(due);
    firstOfTwoOppositeFaces(due);
    firstQuarterOfTwo(due);
    turnsOfEachStage(due);
    goalsAreReachedAtTheEndAndNotBefore(due);
    due.end();
  }

  private static void emptyWay(Due due) {
    due.by("'each of the fewest turns', none");
    compare("HOME", new StageCube(), due, new int[] {0, 0, 0, 0});
  }

  /** Each stage is met once alone: the quarters the other way need one turn, and it brings home. */
  private static void oneStageAlone(Due due) {
    due.by("'1: any turns .. 4: halves', one stage alone");
    compare("turn 14", after(14), due, new int[] {1, 0, 0, 0}, 12);
    compare("turn 17", after(17), due, new int[] {1, 0, 0, 0}, 15);
    compare("turn 8", after(8), due, new int[] {0, 1, 0, 0}, 6);
    compare("turn 11", after(11), due, new int[] {0, 1, 0, 0}, 9);
    compare("turn 2", after(2), due, new int[] {0, 0, 1, 0}, 0);
    compare("turn 5", after(5), due, new int[] {0, 0, 1, 0}, 3);
    for (int face = 0; face < 6; face++) {
      int half = 3 * face + 1;
      compare("turn " + half, after(half), due, new int[] {0, 0, 0, 1}, half);
    }
  }

  /** Two quarters undo a flip, a twist or a place as well as one the other way; the first wins. */
  private static void firstQuarterOfTwo(Due due) {
    due.by("'of such ways the first one (by its first turn, ..)'");
    compare("turn 12", after(12), due, new int[] {1, 0, 0, 1}, 12, 13);
    compare("turn 15", after(15), due, new int[] {1, 0, 0, 1}, 15, 16);
    compare("turn 6", after(6), due, new int[] {0, 1, 0, 1}, 6, 7);
    compare("turn 9", after(9), due, new int[] {0, 1, 0, 1}, 9, 10);
    compare("turn 0", after(0), due, new int[] {0, 0, 1, 1}, 0, 1);
    compare("turn 3", after(3), due, new int[] {0, 0, 1, 1}, 3, 4);
  }

  private static void fewestTurnsOfOneTurn(Due due) {
    due.by("'each of the fewest turns'");
    for (int turn = 0; turn < 18; turn++) {
      StageCube cube = after(turn);
      due.is("solve() after turn " + turn, cube.solve(), turn % 3 == 0 ? 2 : 1);
    }
  }

  private static void firstOfTwoOppositeFaces(Due due) {
    due.by("'of such ways the first one', two turns in either order");
    int[][] pairs = {{1, 4}, {7, 10}, {13, 16}};
    for (int[] pair : pairs) {
      String turns = "turns " + pair[0] + " and " + pair[1];
      int[] lengths = {0, 0, 0, 2};
      compare(turns, after(pair[0], pair[1]), due, lengths, pair);
      compare(turns + " in the other order", after(pair[1], pair[0]), due, lengths, pair);
    }
    compare("turns 15 and 12", after(15, 12), due, new int[] {2, 0, 0, 2}, 12, 15, 13, 16);
    compare("turns 9 and 6", after(9, 6), due, new int[] {0, 2, 0, 2}, 6, 9, 7, 10);
    compare("turns 3 and 0", after(3, 0), due, new int[] {0, 0, 2, 2}, 0, 3, 1, 4);
  }

  private static void turnsOfEachStage(Due due) {
    due.by("'2: without quarters of front and back', '3: quarters of up and down', '4: halves'");
    for (int round = 0; round < 60; round++) {
      StageCube cube = new StageCube();
      mix(cube, new ModelCube());
      cube.solve();
      int step = 0;
      for (int stage = 1; stage <= 4; stage++) {
        int end = step + cube.stage(stage);
        for (; step < end; step++) {
          int turn = cube.step(step);
          boolean half = turn % 3 == 1;
          boolean quarter = turn % 3 != 1 && turn >= 0 && turn < firstForbidden(stage);
          due.is("whether turn " + turn + " is one of stage " + stage, half || quarter ? 1 : 0, 1);
        }
      }
    }
  }

  /** The first turn of the faces that have no quarters in a stage. */
  private static int firstForbidden(int stage) {
    return stage == 1 ? 18 : stage == 2 ? 12 : stage == 3 ? 6 : 0;
  }

  private static void goalsAreReachedAtTheEndAndNotBefore(Due due) {
    due.by("'till all flips are 0', 'till all twists are 0 and the edges 8 .. 11 ..', "
        + "'till the cube can be brought home by halves alone', 'till it is home'");
    ModelWay model = new ModelWay();
    for (int round = 0; round < 60; round++) {
      StageCube cube = new StageCube();
      ModelCube walker = new ModelCube();
      mix(cube, walker);
      cube.solve();
      int step = 0;
      for (int stage = 1; stage <= 4; stage++) {
        int end = step + cube.stage(stage);
        for (; step < end; step++) {
          due.is("whether the goal of stage " + stage + " is reached early",
              isReached(model, stage, walker) ? 1 : 0, 0);
          walker.turn(cube.step(step));
        }
        due.is("whether the goal of stage " + stage + " is reached",
            isReached(model, stage, walker) ? 1 : 0, 1);
      }
    }
  }

  private static boolean isReached(ModelWay model, int stage, ModelCube cube) {
    switch (stage) {
      case 1:
        return hasNoFlips(cube);
      case 2:
        return hasNoTwists(cube) && hasMiddleEdgesAtTheirPositions(cube);
      case 3:
        return model.canComeHomeByHalves(cube);
      default:
        return cube.isHome();
    }
  }

  private static boolean hasNoFlips(ModelCube cube) {
    return Arrays.stream(cube.flip).allMatch(flip -> flip == 0);
  }

  private static boolean hasNoTwists(ModelCube cube) {
    return Arrays.stream(cube.twist).allMatch(twist -> twist == 0);
  }

  private static boolean hasMiddleEdgesAtTheirPositions(ModelCube cube) {
    return Arrays.stream(cube.edge, 8, 12).allMatch(edge -> edge >= 8);
  }

  private static void mix(StageCube cube, ModelCube model) {
    for (int i = 0; i < 30; i++) {
      int turn = RANDOM.nextInt(18);
      cube.turn(turn);
      model.turn(turn);
    }
  }

  private static StageCube after(int... turns) {
    StageCube cube = new StageCube();
    for (int turn : turns) {
      cube.turn(turn);
    }
    return cube;
  }

  private static void compare(String when, StageCube cube, Due due, int[] lengths, int... steps) {
    due.is("solve() after " + when, cube.solve(), steps.length);
    for (int i = 0; i < 4; i++) {
      due.is("stage(" + (i + 1) + ") after " + when, cube.stage(i + 1), lengths[i]);
    }
    for (int i = 0; i < steps.length; i++) {
      due.is("step(" + i + ") after " + when, cube.step(i), steps[i]);
    }
    due.is("step(" + steps.length + ") after " + when, cube.step(steps.length), StageCube.BAD);
  }
}
