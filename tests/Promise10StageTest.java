/** Promise 10: stage tells the lengths of the way found latest, 0 without one, or BAD. */
public final class Promise10StageTest {
  public static void main(String[] args) {
    Due due = new Due();
    withoutAWay(due);
    ofTheWay(due);
    theWayFoundLatest(due);
    notOfTheCubeAsItIs(due);
    afterARefusedCall(due);
    withoutAWayAfterAFault(due);
    ofAnEmptyWay(due);
    wrongStages(due);
    wrongStagesWithoutAWay(due);
    wrongStagesAfterAFault(due);
    due.end();
  }

  private static void withoutAWay(Due due) {
    due.by("'(0 without a way)'");
    StageCube cube = new StageCube();
    compare("of a new cube", cube, due, 0, 0, 0, 0);
    mix(cube);
    compare("before solve()", cube, due, 0, 0, 0, 0);
    cube.flips();
    compare("after flips()", cube, due, 0, 0, 0, 0);
  }

  private static void ofTheWay(Due due) {
    due.by("'How many turns stage 1 .. 4 .. has'");
    StageCube cube = new StageCube();
    mix(cube);
    due.is("solve()", cube.solve(), 23);
    compare("of the way", cube, due, 3, 6, 7, 7);
  }

  private static void theWayFoundLatest(Due due) {
    due.by("'of the way found latest'");
    StageCube cube = new StageCube();
    mix(cube);
    cube.solve();
    cube.home();
    cube.turn(10);
    due.is("solve()", cube.solve(), 1);
    compare("of the next way", cube, due, 0, 0, 0, 1);
    mix(cube);
    cube.home();
    mix(cube);
    due.is("solve()", cube.solve(), 23);
    compare("of the way after it", cube, due, 3, 6, 7, 7);
  }

  private static void notOfTheCubeAsItIs(Due due) {
    due.by("'of the way found latest', also when the cube has changed");
    StageCube cube = new StageCube();
    mix(cube);
    cube.solve();
    cube.turn(4);
    compare("after a turn", cube, due, 3, 6, 7, 7);
    cube.corner(0, 0, 1);
    cube.edge(0, 0, 1);
    compare("after pieces came", cube, due, 3, 6, 7, 7);
    cube.flips();
    cube.lawful();
    compare("after lawful() and flips() of an unlawful cube", cube, due, 3, 6, 7, 7);
    cube.home();
    compare("after home()", cube, due, 3, 6, 7, 7);
  }

  private static void afterARefusedCall(Due due) {
    due.by("'of the way found latest', after refused calls");
    StageCube cube = new StageCube();
    mix(cube);
    cube.solve();
    cube.turn(18);
    cube.corner(8, 0, 0);
    cube.edge(12, 0, 0);
    cube.at(2, 0);
    cube.stage(5);
    cube.step(23);
    compare("after refused calls", cube, due, 3, 6, 7, 7);
  }

  private static void withoutAWayAfterAFault(Due due) {
    due.by("'(0 without a way)', after a solve() that found none");
    for (Fault fault : Fault.values()) {
      StageCube cube = new StageCube();
      fault.put(cube);
      cube.solve();
      compare("with " + fault, cube, due, 0, 0, 0, 0);
      cube.home();
      mix(cube);
      cube.solve();
      cube.home();
      fault.put(cube);
      due.is("solve() with " + fault, cube.solve(), fault.answer);
      compare("with " + fault + " after a way", cube, due, 0, 0, 0, 0);
      cube.home();
      compare("with the cube mended", cube, due, 0, 0, 0, 0);
    }
  }

  private static void ofAnEmptyWay(Due due) {
    due.by("'How many turns stage 1 .. 4 .. has', none");
    StageCube cube = new StageCube();
    mix(cube);
    cube.solve();
    cube.home();
    due.is("solve() at home", cube.solve(), 0);
    compare("of the empty way", cube, due, 0, 0, 0, 0);
  }

  private static void wrongStages(Due due) {
    due.by("'stage 1 .. 4 ..; BAD'");
    StageCube cube = new StageCube();
    mix(cube);
    cube.solve();
    compareWrong("with a way", cube, due);
    compare("after wrong calls", cube, due, 3, 6, 7, 7);
  }

  private static void wrongStagesWithoutAWay(Due due) {
    due.by("'stage 1 .. 4 ..; BAD', without a way");
    compareWrong("without a way", new StageCube(), due);
  }

  private static void wrongStagesAfterAFault(Due due) {
    due.by("'stage 1 .. 4 ..; BAD', after a solve() that found none");
    for (Fault fault : Fault.values()) {
      StageCube cube = new StageCube();
      fault.put(cube);
      cube.solve();
      compareWrong("with " + fault, cube, due);
    }
  }

  private static void mix(StageCube cube) {
    cube.turn(12);
    cube.turn(0);
    cube.turn(15);
  }

  private static void compare(String when, StageCube cube, Due due, int... lengths) {
    for (int i = 0; i < 4; i++) {
      due.is("stage(" + (i + 1) + ") " + when, cube.stage(i + 1), lengths[i]);
    }
  }

  private static void compareWrong(String when, StageCube cube, Due due) {
    due.is("stage(0) " + when, cube.stage(0), StageCube.BAD);
    for (int wrong : Wrong.numbers(5)) {
      due.is("stage(" + wrong + ") " + when, cube.stage(wrong), StageCube.BAD);
    }
  }
}
