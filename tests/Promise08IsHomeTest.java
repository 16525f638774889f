/** Promise 8: isHome answers 1 for HOME and 0 for anything else. */
public final class Promise08IsHomeTest {
  public static void main(String[] args) {
    Due due = new Due();
    StageCube cube = new StageCube();
    due.is("isHome() of a new cube", cube.isHome(), 1);
    for (int turn = 0; turn < 18; turn++) {
      cube.turn(turn);
      due.is("isHome() after turn " + turn, cube.isHome(), 0);
      cube.home();
      due.is("isHome() after home()", cube.isHome(), 1);
    }
    for (int i = 0; i < 8; i++) {
      cube.corner(i, i, 2);
      due.is("isHome() with a twist at " + i, cube.isHome(), 0);
      cube.corner(i, (i + 1) % 8, 0);
      due.is("isHome() with another corner at " + i, cube.isHome(), 0);
      cube.corner(i, i, 0);
      due.is("isHome() with the corner back", cube.isHome(), 1);
    }
    for (int i = 0; i < 12; i++) {
      cube.edge(i, i, 1);
      due.is("isHome() with a flip at " + i, cube.isHome(), 0);
      cube.edge(i, (i + 1) % 12, 0);
      due.is("isHome() with another edge at " + i, cube.isHome(), 0);
      cube.edge(i, i, 0);
      due.is("isHome() with the edge back", cube.isHome(), 1);
    }
    due.end();
  }
}
