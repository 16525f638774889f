import java.util.Random;

/** Promise 6: turn does each of the 18 turns as the Terms say, with any cube. */
public final class Promise06TurnTest {
  public static void main(String[] args) {
    Due due = new Due();
    eachTurn(due);
    longRuns(due);
    eachTurnWithEachFault(due);
    scatteredCubes(due);
    wrongTurns(due);
    wrongTurnsOfAnUnlawfulCube(due);
    wrongTurnsAreNotCounted(due);
    unlawfulTurnsAreCounted(due);
    due.end();
  }

  private static void eachTurn(Due due) {
    due.by("'A turn is done'");
    for (int turn = 0; turn < 18; turn++) {
      StageCube cube = new StageCube();
      ModelCube model = new ModelCube();
      due.is("turn(" + turn + ")", cube.turn(turn), 1);
      model.turn(turn);
      model.compare("turn " + turn, cube, due);
      due.is("the turn that undoes " + turn, cube.turn(turn / 3 * 3 + 2 - turn % 3), 1);
      due.is("isHome() when undone", cube.isHome(), 1);
    }
  }

  private static void longRuns(Due due) {
    due.by("'A turn is done', many");
    Random random = new Random(6);
    for (int round = 0; round < 20; round++) {
      StageCube cube = new StageCube();
      ModelCube model = new ModelCube();
      for (int i = 0; i < 22; i++) {
        int turn = random.nextInt(18);
        cube.turn(turn);
        model.turn(turn);
        model.compare("run " + round + ", turn " + i, cube, due);
      }
    }
  }

  private static void eachTurnWithEachFault(Due due) {
    due.by("'(also with a cube that is not lawful)'");
    for (Fault fault : Fault.values()) {
      for (int turn = 0; turn < 18; turn++) {
        StageCube cube = new StageCube();
        ModelCube model = new ModelCube();
        fault.put(cube);
        fault.put(model);
        due.is("turn(" + turn + ") with " + fault, cube.turn(turn), 1);
        model.turn(turn);
        model.compare("turn " + turn + " with " + fault, cube, due);
        due.is("lawful() after turn " + turn, cube.lawful(), fault.answer);
      }
    }
  }

  private static void scatteredCubes(Due due) {
    due.by("'(also with a cube that is not lawful)', any pieces");
    Random random = new Random(66);
    for (int round = 0; round < 100; round++) {
      StageCube cube = new StageCube();
      ModelCube model = new ModelCube();
      model.scatter(random);
      model.setUp(cube, due);
      for (int i = 0; i < 5; i++) {
        int turn = random.nextInt(18);
        due.is("turn(" + turn + ")", cube.turn(turn), 1);
        model.turn(turn);
      }
      model.compare("scattered " + round, cube, due);
    }
  }

  private static void wrongTurns(Due due) {
    due.by("'1; BAD', too small or too large");
    StageCube cube = new StageCube();
    ModelCube model = new ModelCube();
    cube.turn(7);
    model.turn(7);
    for (int wrong : Wrong.numbers(18)) {
      due.is("turn(" + wrong + ")", cube.turn(wrong), StageCube.BAD);
    }
    model.compare("after wrong turns", cube, due);
  }

  private static void wrongTurnsOfAnUnlawfulCube(Due due) {
    due.by("'1; BAD', with a cube that is not lawful");
    for (Fault fault : Fault.values()) {
      StageCube cube = new StageCube();
      ModelCube model = new ModelCube();
      fault.put(cube);
      fault.put(model);
      due.is("turn(-1) with " + fault, cube.turn(-1), StageCube.BAD);
      due.is("turn(18) with " + fault, cube.turn(18), StageCube.BAD);
      model.compare("after wrong turns with " + fault, cube, due);
    }
  }

  private static void wrongTurnsAreNotCounted(Due due) {
    due.by("'how many turns were done', BAD ones are not");
    StageCube cube = new StageCube();
    cube.turn(7);
    for (int wrong : Wrong.numbers(18)) {
      cube.turn(wrong);
    }
    due.is("home()", cube.home(), 1);
  }

  private static void unlawfulTurnsAreCounted(Due due) {
    due.by("'how many turns were done', also with a cube that is not lawful");
    for (Fault fault : Fault.values()) {
      StageCube cube = new StageCube();
      fault.put(cube);
      cube.turn(0);
      cube.turn(17);
      due.is("home() with " + fault, cube.home(), 2);
    }
  }
}
