import java.util.Arrays;

/** Promise 12: flips tells the length of stage 1 of the cube as it is, and changes nothing. */
public final class Promise12FlipsTest {
  public static void main(String[] args) {
    Due due = new Due();
    allFlips(due);
    otherPiecesDoNotMatter(due);
    noneAndTheMost(due);
    theCubeAsItIs(due);
    asLawfulWithEachFault(due);
    asLawfulWithTheFirstOfManyFaults(due);
    theCubeStays(due);
    theWayStays(due);
    theWayStaysWithAFault(due);
    isNoTurn(due);
    due.end();
  }

  private static void allFlips(Due due) {
    due.by("'How many turns stage 1 of the cube as it is would have'");
    int[] turns = turnsByFlips();
    for (int flips = 0; flips < 4096; flips += 8) {
      StageCube cube = new StageCube();
      for (int i = 0; i < 8; i++) {
        compare(cube, flips + i, turns[flips + i], due);
      }
    }
  }

  private static void compare(StageCube cube, int flips, int want, Due due) {
    ModelCube model = show(flips);
    model.setUp(cube, due);
    due.is("flips() of " + flips, cube.flips(), want);
    model.compare("after flips()", cube, due);
  }

  private static ModelCube show(int flips) {
    ModelCube cube = new ModelCube();
    for (int i = 0; i < 12; i++) {
      cube.flip[i] = flips >> i & 1;
    }
    return cube;
  }

  private static int read(ModelCube cube) {
    int flips = 0;
    for (int i = 0; i < 12; i++) {
      flips |= cube.flip[i] << i;
    }
    return flips;
  }

  /** By looking, for each length, at all turns of all flips of the length before. */
  private static int[] turnsByFlips() {
    int[] turns = new int[4096];
    Arrays.fill(turns, StageCube.FLIPPED);
    turns[0] = 0;
    for (int length = 0; length < 12; length++) {
      for (int flips = 0; flips < 4096; flips++) {
        for (int turn = 0; turn < 18 && turns[flips] == length; turn++) {
          ModelCube cube = show(flips);
          cube.turn(turn);
          if (turns[read(cube)] < 0) {
            turns[read(cube)] = length + 1;
          }
        }
      }
    }
    return turns;
  }

  private static void otherPiecesDoNotMatter(Due due) {
    due.by("'stage 1': 'till all flips are 0'");
    StageCube cube = new StageCube();
    for (int turn = 0; turn < 12; turn++) {
      cube.turn(turn);
    }
    cube.turn(13);
    due.is("flips() without quarters of front and back", cube.flips(), 0);
    cube.turn(12);
    due.is("flips() after a quarter of front", cube.flips(), 1);
  }

  private static void noneAndTheMost(Due due) {
    due.by("'How many turns stage 1 .. would have', none and the most");
    StageCube cube = new StageCube();
    due.is("flips() of HOME", cube.flips(), 0);
    for (int i = 0; i < 12; i++) {
      cube.edge(i, i, 1);
    }
    due.is("flips() with all flipped", cube.flips(), 7);
  }

  private static void theCubeAsItIs(Due due) {
    due.by("'of the cube as it is', not of the way found latest");
    StageCube cube = new StageCube();
    cube.turn(12);
    due.is("flips()", cube.flips(), 1);
    cube.solve();
    due.is("flips() after solve()", cube.flips(), 1);
    cube.home();
    due.is("flips() after home()", cube.flips(), 0);
    due.is("stage(1) after home()", cube.stage(1), 1);
  }

  private static void asLawfulWithEachFault(Due due) {
    due.by("'as lawful() when that is not 1'");
    for (Fault fault : Fault.values()) {
      StageCube cube = new StageCube();
      fault.put(cube);
      due.is("flips() with " + fault, cube.flips(), fault.answer);
      cube.home();
      due.is("flips() after " + fault, cube.flips(), 0);
    }
  }

  private static void asLawfulWithTheFirstOfManyFaults(Due due) {
    due.by("'as lawful() when that is not 1', the first of many");
    Fault[] all = Fault.values();
    for (int first = 0; first < all.length; first++) {
      StageCube cube = new StageCube();
      for (int i = first; i < all.length; i++) {
        all[i].put(cube);
      }
      due.is("flips() with " + all[first] + " and the next", cube.flips(), all[first].answer);
    }
  }

  private static void theCubeStays(Due due) {
    due.by("'would have', so the cube stays");
    for (Fault fault : Fault.values()) {
      StageCube cube = new StageCube();
      ModelCube model = new ModelCube();
      fault.put(cube);
      fault.put(model);
      cube.flips();
      model.compare("after flips() with " + fault, cube, due);
    }
  }

  private static void theWayStays(Due due) {
    due.by("'would have', so the way found latest stays");
    StageCube cube = new StageCube();
    cube.turn(1);
    cube.solve();
    cube.turn(12);
    due.is("flips() of another cube", cube.flips(), 1);
    due.is("step(0) after flips()", cube.step(0), 1);
    due.is("step(1) after flips()", cube.step(1), StageCube.BAD);
    due.is("stage(1) after flips()", cube.stage(1), 0);
    due.is("stage(4) after flips()", cube.stage(4), 1);
  }

  /** Only solve() finds a way or finds that there is none. */
  private static void theWayStaysWithAFault(Due due) {
    due.by("'as lawful() when that is not 1', and the way found latest stays");
    for (Fault fault : Fault.values()) {
      StageCube cube = new StageCube();
      cube.turn(1);
      cube.solve();
      cube.home();
      fault.put(cube);
      due.is("flips() with " + fault, cube.flips(), fault.answer);
      due.is("step(0) after flips() with " + fault, cube.step(0), 1);
      due.is("stage(4) after flips() with " + fault, cube.stage(4), 1);
    }
  }

  private static void isNoTurn(Due due) {
    due.by("'how many turns were done', flips() does none");
    StageCube cube = new StageCube();
    cube.turn(12);
    cube.flips();
    due.is("home()", cube.home(), 1);
  }
}
