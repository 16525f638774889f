/** Promise 11: step tells the turns of the way found latest, BAD where there is none. */
public final class Promise11StepTest {
  public static void main(String[] args) {
    Due due = new Due();
    StageCube cube = new StageCube();
    compare("without a way", cube, due);

    cube.turn(0);
    cube.turn(10);
    cube.turn(3);
    compare("before solve()", cube, due);
    cube.solve();
    compare("of the way", cube, due, 2, 16, 3, 7, 1, 13, 1, 7, 4, 16);

    cube.turn(12);
    cube.edge(0, 0, 1);
    cube.flips();
    cube.home();
    compare("when the cube has changed", cube, due, 2, 16, 3, 7, 1, 13, 1, 7, 4, 16);

    cube.turn(10);
    cube.solve();
    compare("of the next way", cube, due, 10);

    cube.edge(0, 0, 1);
    due.is("solve() of an unlawful cube", cube.solve(), StageCube.FLIPPED);
    compare("when there is no way", cube, due);
    due.end();
  }

  private static void compare(String when, StageCube cube, Due due, int... steps) {
    for (int i = 0; i < steps.length; i++) {
      due.is("step(" + i + ") " + when, cube.step(i), steps[i]);
    }
    for (int i = steps.length; i < 70; i++) {
      due.is("step(" + i + ") " + when, cube.step(i), StageCube.BAD);
    }
    for (int wrong : Wrong.numbers(60)) {
      due.is("step(" + wrong + ") " + when, cube.step(wrong), StageCube.BAD);
    }
  }
}
