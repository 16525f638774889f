/** Promise 1: a new object is HOME. Also the constants, and that objects share no state. */
public final class Promise01NewObjectTest {
  public static void main(String[] args) {
    Due due = new Due();
    new ModelCube().compare("new", new StageCube(), due);
    due.is("new: isHome()", new StageCube().isHome(), 1);
    due.is("new: lawful()", new StageCube().lawful(), 1);
    due.is("new: home()", new StageCube().home(), 0);
    due.is("new: flips()", new StageCube().flips(), 0);
    due.is("new: solve()", new StageCube().solve(), 0);
    StageCube turned = new StageCube();
    StageCube other = new StageCube();
    turned.turn(12);
    turned.solve();
    new ModelCube().compare("beside a turned one", other, due);
    due.is("beside a turned one: home()", other.home(), 0);
    due.is("beside a turned one: step(0)", other.step(0), StageCube.BAD);
    due.is("BAD", StageCube.BAD, -1);
    due.is("NO_CORNERS", StageCube.NO_CORNERS, -2);
    due.is("NO_EDGES", StageCube.NO_EDGES, -3);
    due.is("TWISTED", StageCube.TWISTED, -4);
    due.is("FLIPPED", StageCube.FLIPPED, -5);
    due.is("ODD", StageCube.ODD, -6);
    due.end();
  }
}
