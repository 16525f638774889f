/** Promise 11: step tells the turns of the way found latest, BAD where there is none. */
public final class Promise11StepTest {
  private static final int[] WAY = {2, 16, 3, 7, 1, 13, 1, 7, 4, 16};

  public static void main(String[] args) {
    Due due = new Due();
    withoutAWay(due);
    fromTheFirstToTheLast(due);
    beforeTheFirst(due);
    afterTheLast(due);
    farFromAnyTurn(due);
    theWayFoundLatest(due);
    notOfTheCubeAsItIs(due);
    withoutAWayAfterAFault(due);
    ofAnEmptyWay(due);
    asManyAsTheStagesHave(due);
    due.end();
  }

  private static void withoutAWay(Due due) {
    due.by("'BAD when there is none', without a way");
    StageCube cube = new StageCube();
    compare("of a new cube", cube, due);
    mix(cube);
    compare("before solve()", cube, due);
    cube.flips();
    compare("after flips()", cube, due);
  }

  private static void fromTheFirstToTheLast(Due due) {
    due.by("'Turn i (from 0) of it'");
    StageCube cube = new StageCube();
    mix(cube);
    due.is("solve()", cube.solve(), WAY.length);
    due.is("step(0)", cube.step(0), WAY[0]);
    due.is("step(9)", cube.step(9), WAY[9]);
    compare("of the way", cube, due, WAY);
  }

  private static void beforeTheFirst(Due due) {
    due.by("'BAD when there is none', before the first");
    StageCube cube = new StageCube();
    mix(cube);
    cube.solve();
    due.is("step(-1)", cube.step(-1), StageCube.BAD);
  }

  private static void afterTheLast(Due due) {
    due.by("'BAD when there is none', after the last");
    StageCube cube = new StageCube();
    mix(cube);
    cube.solve();
    due.is("step(10)", cube.step(10), StageCube.BAD);
    due.is("step(11)", cube.step(11), StageCube.BAD);
  }

  private static void farFromAnyTurn(Due due) {
    due.by("'BAD when there is none', far too small or too large");
    StageCube cube = new StageCube();
    mix(cube);
    cube.solve();
    for (int wrong : Wrong.numbers(60)) {
      due.is("step(" + wrong + ")", cube.step(wrong), StageCube.BAD);
    }
    compare("after wrong calls", cube, due, WAY);
  }

  private static void theWayFoundLatest(Due due) {
    due.by("'of it', the way found latest");
    StageCube cube = new StageCube();
    mix(cube);
    cube.solve();
    cube.home();
    cube.turn(10);
    cube.solve();
    compare("of the next, shorter way", cube, due, 10);
    cube.home();
    mix(cube);
    cube.solve();
    compare("of the longer way after it", cube, due, WAY);
  }

  private static void notOfTheCubeAsItIs(Due due) {
    due.by("'of it', also when the cube has changed");
    StageCube cube = new StageCube();
    mix(cube);
    cube.solve();
    cube.turn(12);
    compare("after a turn", cube, due, WAY);
    cube.edge(0, 0, 1);
    cube.corner(0, 0, 1);
    compare("after pieces came", cube, due, WAY);
    cube.flips();
    compare("after flips() of an unlawful cube", cube, due, WAY);
    cube.home();
    compare("after home()", cube, due, WAY);
  }

  private static void withoutAWayAfterAFault(Due due) {
    due.by("'BAD when there is none', after a solve() that found none");
    for (Fault fault : Fault.values()) {
      StageCube cube = new StageCube();
      mix(cube);
      cube.solve();
      cube.home();
      fault.put(cube);
      due.is("solve() with " + fault, cube.solve(), fault.answer);
      compare("with " + fault, cube, due);
      cube.home();
      compare("with the cube mended", cube, due);
    }
  }

  private static void ofAnEmptyWay(Due due) {
    due.by("'BAD when there is none', of an empty way");
    StageCube cube = new StageCube();
    mix(cube);
    cube.solve();
    cube.home();
    due.is("solve()", cube.solve(), 0);
    compare("of the empty way", cube, due);
  }

  private static void asManyAsTheStagesHave(Due due) {
    due.by("'Turn i (from 0) of it', in all stages together");
    StageCube cube = new StageCube();
    for (int i = 0; i < 12; i++) {
      cube.edge(i, i, 1);
    }
    int turns = cube.solve();
    int sum = cube.stage(1) + cube.stage(2) + cube.stage(3) + cube.stage(4);
    due.is("the stages together", sum, turns);
    due.is("whether step(" + (turns - 1) + ") is a turn", cube.step(turns - 1) >= 0 ? 1 : 0, 1);
    due.is("step(" + turns + ")", cube.step(turns), StageCube.BAD);
  }

  private static void mix(StageCube cube) {
    cube.turn(0);
    cube.turn(10);
    cube.turn(3);
  }

  private static void compare(String when, StageCube cube, Due due, int... steps) {
    for (int i = 0; i < steps.length; i++) {
      due.is("step(" + i + ") " + when, cube.step(i), steps[i]);
    }
    for (int i = steps.length; i < 70; i++) {
      due.is("step(" + i + ") " + when, cube.step(i), StageCube.BAD);
    }
    due.is("step(-1) " + when, cube.step(-1), StageCube.BAD);
  }
}
