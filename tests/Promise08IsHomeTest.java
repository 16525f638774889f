/** Promise 8: isHome answers 1 for HOME and 0 for anything else. */
public final class Promise08IsHomeTest {
  public static void main(String[] args) {
    Due due = new Due();
    newAndAfterHome(due);
    afterOneTurn(due);
    afterTheWayBack(due);
    oneCornerWrong(due);
    oneEdgeWrong(due);
    notWhenUnlawful(due);
    changesNothing(due);
    due.end();
  }

  private static void newAndAfterHome(Due due) {
    due.by("'1 or 0', 1");
    StageCube cube = new StageCube();
    due.is("isHome() of a new cube", cube.isHome(), 1);
    cube.home();
    due.is("isHome() after home()", cube.isHome(), 1);
    cube.corner(8, 0, 0);
    cube.edge(0, 12, 0);
    cube.turn(18);
    due.is("isHome() after refused calls", cube.isHome(), 1);
  }

  private static void afterOneTurn(Due due) {
    due.by("'1 or 0', 0 after a turn");
    StageCube cube = new StageCube();
    for (int turn = 0; turn < 18; turn++) {
      cube.turn(turn);
      due.is("isHome() after turn " + turn, cube.isHome(), 0);
      cube.home();
      due.is("isHome() after home()", cube.isHome(), 1);
    }
  }

  private static void afterTheWayBack(Due due) {
    due.by("'1 or 0', 1 after turns and back");
    for (int turn = 0; turn < 18; turn++) {
      StageCube cube = new StageCube();
      cube.turn(turn);
      cube.turn(turn);
      due.is("isHome() after turn " + turn + " twice", cube.isHome(), turn % 3 == 1 ? 1 : 0);
      cube.turn(turn);
      cube.turn(turn);
      due.is("isHome() after turn " + turn + " four times", cube.isHome(), 1);
    }
  }

  private static void oneCornerWrong(Due due) {
    due.by("'1 or 0', 0 with one corner wrong");
    StageCube cube = new StageCube();
    for (int i = 0; i < 8; i++) {
      for (int twist = 1; twist < 3; twist++) {
        cube.corner(i, i, twist);
        due.is("isHome() with a twist at " + i, cube.isHome(), 0);
      }
      cube.corner(i, (i + 1) % 8, 0);
      due.is("isHome() with another corner at " + i, cube.isHome(), 0);
      cube.corner(i, i, 0);
      due.is("isHome() with the corner back", cube.isHome(), 1);
    }
  }

  private static void oneEdgeWrong(Due due) {
    due.by("'1 or 0', 0 with one edge wrong");
    StageCube cube = new StageCube();
    for (int i = 0; i < 12; i++) {
      cube.edge(i, i, 1);
      due.is("isHome() with a flip at " + i, cube.isHome(), 0);
      cube.edge(i, (i + 1) % 12, 0);
      due.is("isHome() with another edge at " + i, cube.isHome(), 0);
      cube.edge(i, i, 0);
      due.is("isHome() with the edge back", cube.isHome(), 1);
    }
  }

  private static void notWhenUnlawful(Due due) {
    due.by("'1 or 0', 0 and not a fault's number");
    for (Fault fault : Fault.values()) {
      StageCube cube = new StageCube();
      fault.put(cube);
      due.is("isHome() with " + fault, cube.isHome(), 0);
    }
  }

  private static void changesNothing(Due due) {
    due.by("'Whether it is HOME', and the cube stays");
    StageCube cube = new StageCube();
    ModelCube model = new ModelCube();
    cube.turn(12);
    model.turn(12);
    due.is("isHome()", cube.isHome(), 0);
    due.is("isHome() again", cube.isHome(), 0);
    model.compare("after isHome()", cube, due);
  }
}
