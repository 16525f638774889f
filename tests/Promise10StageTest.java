/** Promise 10: stage tells the lengths of the way found latest, 0 without one, or BAD. */
public final class Promise10StageTest {
  public static void main(String[] args) {
    Due due = new Due();
    StageCube cube = new StageCube();
    compare("without a way", cube, due, 0, 0, 0, 0);

    cube.turn(12);
    cube.turn(0);
    cube.turn(15);
    compare("before solve()", cube, due, 0, 0, 0, 0);
    due.is("solve()", cube.solve(), 23);
    compare("of the way", cube, due, 3, 6, 7, 7);

    cube.turn(4);
    cube.corner(0, 0, 1);
    cube.flips();
    cube.lawful();
    cube.home();
    compare("when the cube has changed", cube, due, 3, 6, 7, 7);

    cube.turn(10);
    due.is("solve()", cube.solve(), 1);
    compare("of the next way", cube, due, 0, 0, 0, 1);

    cube.corner(0, 1, 0);
    due.is("solve() of an unlawful cube", cube.solve(), StageCube.NO_CORNERS);
    compare("when there is no way", cube, due, 0, 0, 0, 0);

    cube.home();
    cube.turn(10);
    cube.solve();
    cube.home();
    due.is("solve() at home", cube.solve(), 0);
    compare("of the empty way", cube, due, 0, 0, 0, 0);
    due.end();
  }

  private static void compare(String when, StageCube cube, Due due, int... lengths) {
    for (int i = 0; i < 4; i++) {
      due.is("stage(" + (i + 1) + ") " + when, cube.stage(i + 1), lengths[i]);
    }
    due.is("stage(0) " + when, cube.stage(0), StageCube.BAD);
    for (int wrong : Wrong.numbers(5)) {
      due.is("stage(" + wrong + ") " + when, cube.stage(wrong), StageCube.BAD);
    }
  }
}
