/** Promise 7: home brings the cube HOME and tells the turns done since the last time. */
public final class Promise07HomeTest {
  public static void main(String[] args) {
    Due due = new Due();
    sinceTheBeginning(due);
    everyTurnCounts(due);
    sinceItWasSoByThis(due);
    notSinceItWasSoByTurns(due);
    notSinceItWasSoByPieces(due);
    onlyTurnsCount(due);
    mostTurns(due);
    ofAnUnlawfulCube(due);
    theWayStays(due);
    due.end();
  }

  private static void sinceTheBeginning(Due due) {
    due.by("'(or the beginning)'");
    StageCube cube = new StageCube();
    due.is("home() of a new cube", cube.home(), 0);
    due.is("home() again", cube.home(), 0);
    StageCube other = new StageCube();
    other.turn(5);
    due.is("home() after one turn", other.home(), 1);
  }

  private static void everyTurnCounts(Due due) {
    due.by("'how many turns were done'");
    StageCube cube = new StageCube();
    for (int turn = 0; turn < 18; turn++) {
      cube.turn(turn);
    }
    due.is("home() after 18 turns", cube.home(), 18);
    new ModelCube().compare("after home()", cube, due);
  }

  private static void sinceItWasSoByThis(Due due) {
    due.by("'since it was so by this'");
    StageCube cube = new StageCube();
    cube.turn(0);
    cube.turn(6);
    cube.turn(12);
    due.is("home()", cube.home(), 3);
    due.is("home() at once again", cube.home(), 0);
    cube.turn(17);
    due.is("home() after one more turn", cube.home(), 1);
  }

  private static void notSinceItWasSoByTurns(Due due) {
    due.by("'since it was so by this', not by turns");
    StageCube cube = new StageCube();
    cube.turn(0);
    cube.turn(2);
    due.is("isHome() by turns", cube.isHome(), 1);
    cube.turn(4);
    due.is("home()", cube.home(), 3);
    cube.turn(1);
    cube.turn(1);
    due.is("isHome() by turns", cube.isHome(), 1);
    due.is("home() of a cube that is HOME", cube.home(), 2);
  }

  private static void notSinceItWasSoByPieces(Due due) {
    due.by("'since it was so by this', not by pieces that come");
    StageCube cube = new StageCube();
    cube.turn(1);
    for (int i = 0; i < 8; i++) {
      cube.corner(i, i, 0);
    }
    for (int i = 0; i < 12; i++) {
      cube.edge(i, i, 0);
    }
    due.is("isHome() by pieces", cube.isHome(), 1);
    due.is("home()", cube.home(), 1);
  }

  private static void onlyTurnsCount(Due due) {
    due.by("'how many turns were done', and no other calls");
    StageCube cube = new StageCube();
    cube.turn(4);
    cube.solve();
    cube.flips();
    cube.stage(1);
    cube.step(0);
    cube.at(0, 0);
    cube.lawful();
    cube.isHome();
    cube.turn(18);
    cube.turn(-1);
    cube.corner(3, 3, 1);
    cube.edge(2, 1, 1);
    due.is("home()", cube.home(), 1);
  }

  private static void mostTurns(Due due) {
    due.by("'how many turns were done', the most");
    StageCube cube = new StageCube();
    for (int i = 0; i < 510; i++) {
      cube.turn(i % 18);
    }
    due.is("home()", cube.home(), 510);
    due.is("home() again", cube.home(), 0);
  }

  private static void ofAnUnlawfulCube(Due due) {
    due.by("'The cube is HOME', whatever it was");
    for (Fault fault : Fault.values()) {
      StageCube cube = new StageCube();
      fault.put(cube);
      due.is("home() with " + fault, cube.home(), 0);
      new ModelCube().compare("after home() with " + fault, cube, due);
      due.is("lawful() after home()", cube.lawful(), 1);
    }
  }

  private static void theWayStays(Due due) {
    due.by("'of the way found latest', after home()");
    StageCube cube = new StageCube();
    cube.turn(4);
    cube.solve();
    cube.home();
    due.is("stage(4)", cube.stage(4), 1);
    due.is("step(0)", cube.step(0), 4);
  }
}
