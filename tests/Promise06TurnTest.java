import java.util.Random;

/** Promise 6: turn does each of the 18 turns as the Terms say, with any cube. */
public final class Promise06TurnTest {
  public static void main(String[] args) {
    Due due = new Due();
    eachTurn(due);
    longRuns(due);
    unlawfulCubes(due);
    wrongTurns(due);
    due.end();
  }

  private static void eachTurn(Due due) {
    for (int turn = 0; turn < 18; turn++) {
      StageCube cube = new StageCube();
      ModelCube model = new ModelCube();
      due.is("turn(" + turn + ")", cube.turn(turn), 1);
      model.turn(turn);
      model.compare("turn " + turn, cube, due);
      due.is("the turn that undoes " + turn, cube.turn(turn / 3 * 3 + 2 - turn % 3), 1);
      due.is("isHome() when undone", cube.isHome(), 1);
    }
  }

  private static void longRuns(Due due) {
    Random random = new Random(6);
    for (int round = 0; round < 20; round++) {
      StageCube cube = new StageCube();
      ModelCube model = new ModelCube();
      for (int i = 0; i < 22; i++) {
        int turn = random.nextInt(18);
        cube.turn(turn);
        model.turn(turn);
        model.compare("run " + round + ", turn " + i, cube, due);
      }
    }
  }

  private static void unlawfulCubes(Due due) {
    Random random = new Random(66);
    for (int round = 0; round < 100; round++) {
      StageCube cube = new StageCube();
      ModelCube model = new ModelCube();
      model.scatter(random);
      model.setUp(cube, due);
      for (int i = 0; i < 5; i++) {
        int turn = random.nextInt(18);
        due.is("turn(" + turn + ")", cube.turn(turn), 1);
        model.turn(turn);
      }
      model.compare("scattered " + round, cube, due);
    }
  }

  private static void wrongTurns(Due due) {
    StageCube cube = new StageCube();
    ModelCube model = new ModelCube();
    cube.turn(7);
    model.turn(7);
    for (int wrong : Wrong.numbers(18)) {
      due.is("turn(" + wrong + ")", cube.turn(wrong), StageCube.BAD);
    }
    model.compare("after wrong turns", cube, due);
    due.is("home() after wrong turns", cube.home(), 1);
  }
}
