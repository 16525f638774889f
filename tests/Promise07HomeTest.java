/** Promise 7: home brings the cube HOME and tells the turns done since the last time. */
public final class Promise07HomeTest {
  public static void main(String[] args) {
    Due due = new Due();
    StageCube cube = new StageCube();
    due.is("home() of a new cube", cube.home(), 0);
    for (int turn = 0; turn < 18; turn++) {
      cube.turn(turn);
    }
    due.is("home() after 18 turns", cube.home(), 18);
    new ModelCube().compare("after home()", cube, due);
    due.is("home() again", cube.home(), 0);

    cube.corner(3, 3, 1);
    cube.edge(2, 1, 1);
    due.is("home() after pieces were put", cube.home(), 0);
    new ModelCube().compare("after home() of an unlawful cube", cube, due);

    cube.turn(0);
    cube.turn(2);
    due.is("isHome() by turns", cube.isHome(), 1);
    cube.turn(18);
    cube.turn(-1);
    due.is("home() counts turns that brought it home too, no wrong ones", cube.home(), 2);

    cube.turn(4);
    cube.solve();
    cube.flips();
    due.is("home() counts no turns of a way", cube.home(), 1);
    due.is("the way stays: stage(4)", cube.stage(4), 1);
    due.is("the way stays: step(0)", cube.step(0), 4);
    due.end();
  }
}
