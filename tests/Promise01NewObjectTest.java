/** Promise 1: a new object is HOME. Also the constants, and that objects share no state. */
public final class Promise01NewObjectTest {
  public static void main(String[] args) {
    Due due = new Due();
    isHome(due);
    hasDoneNoTurns(due);
    hasNoWay(due);
    sharesNothing(due);
    constants(due);
    due.end();
  }

  private static void isHome(Due due) {
    due.by("'`StageCube()`: HOME'");
    new ModelCube().compare("new", new StageCube(), due);
    due.is("isHome()", new StageCube().isHome(), 1);
    due.is("lawful()", new StageCube().lawful(), 1);
    due.is("flips()", new StageCube().flips(), 0);
    due.is("solve()", new StageCube().solve(), 0);
  }

  private static void hasDoneNoTurns(Due due) {
    due.by("'(or the beginning)'");
    due.is("home()", new StageCube().home(), 0);
  }

  private static void hasNoWay(Due due) {
    due.by("'(0 without a way)', 'BAD when there is none'");
    StageCube cube = new StageCube();
    for (int stage = 1; stage <= 4; stage++) {
      due.is("stage(" + stage + ")", cube.stage(stage), 0);
    }
    due.is("step(0)", cube.step(0), StageCube.BAD);
  }

  private static void sharesNothing(Due due) {
    due.by("'`StageCube()`: HOME', beside another one");
    StageCube turned = new StageCube();
    StageCube other = new StageCube();
    turned.turn(12);
    turned.solve();
    new ModelCube().compare("beside a turned one", other, due);
    new ModelCube().compare("made after turns of another", new StageCube(), due);
    due.is("home()", other.home(), 0);
    due.is("stage(1)", other.stage(1), 0);
    due.is("step(0)", other.step(0), StageCube.BAD);
    due.is("solve()", other.solve(), 0);
    due.is("step(0) of the turned one", turned.step(0), 12);
  }

  private static void constants(Due due) {
    due.by("'The public face'");
    due.is("BAD", StageCube.BAD, -1);
    due.is("NO_CORNERS", StageCube.NO_CORNERS, -2);
    due.is("NO_EDGES", StageCube.NO_EDGES, -3);
    due.is("TWISTED", StageCube.TWISTED, -4);
    due.is("FLIPPED", StageCube.FLIPPED, -5);
    due.is("ODD", StageCube.ODD, -6);
  }
}
