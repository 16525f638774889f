import java.util.Arrays;

/** Promise 12: flips tells the length of stage 1 of the cube as it is, and changes nothing. */
public final class Promise12FlipsTest {
  public static void main(String[] args) {
    Due due = new Due();
    int[] turns = turnsByFlips();
    for (int flips = 0; flips < 4096; flips += 8) {
      StageCube cube = new StageCube();
      for (int i = 0; i < 8; i++) {
        compare(cube, flips + i, turns[flips + i], due);
      }
    }
    otherPiecesDoNotMatter(due);
    theWayStays(due);
    unlawfulCubes(due);
    due.end();
  }

  private static void compare(StageCube cube, int flips, int want, Due due) {
    ModelCube model = show(flips);
    model.setUp(cube, due);
    due.is("flips() of " + flips, cube.flips(), want);
    model.compare("after flips()", cube, due);
  }

  private static ModelCube show(int flips) {
    ModelCube cube = new ModelCube();
    for (int i = 0; i < 12; i++) {
      cube.flip[i] = flips >> i & 1;
    }
    return cube;
  }

  private static int read(ModelCube cube) {
    int flips = 0;
    for (int i = 0; i < 12; i++) {
      flips |= cube.flip[i] << i;
    }
    return flips;
  }

  /** By looking, for each length, at all turns of all flips of the length before. */
  private static int[] turnsByFlips() {
    int[] turns = new int[4096];
    Arrays.fill(turns, StageCube.FLIPPED);
    turns[0] = 0;
    for (int length = 0; length < 12; length++) {
      for (int flips = 0; flips < 4096; flips++) {
        for (int turn = 0; turn < 18 && turns[flips] == length; turn++) {
          ModelCube cube = show(flips);
          cube.turn(turn);
          if (turns[read(cube)] < 0) {
            turns[read(cube)] = length + 1;
          }
        }
      }
    }
    return turns;
  }

  private static void otherPiecesDoNotMatter(Due due) {
    StageCube cube = new StageCube();
    for (int turn = 0; turn < 12; turn++) {
      cube.turn(turn);
    }
    cube.turn(13);
    due.is("flips() without quarters of front and back", cube.flips(), 0);
    cube.turn(12);
    due.is("flips() after a quarter of front", cube.flips(), 1);
  }

  private static void theWayStays(Due due) {
    StageCube cube = new StageCube();
    cube.turn(1);
    cube.solve();
    cube.turn(12);
    due.is("flips() of another cube", cube.flips(), 1);
    due.is("step(0) after flips()", cube.step(0), 1);
    due.is("step(1) after flips()", cube.step(1), StageCube.BAD);
    due.is("stage(1) after flips()", cube.stage(1), 0);
    cube.home();
    cube.corner(0, 1, 0);
    due.is("flips() of an unlawful cube", cube.flips(), StageCube.NO_CORNERS);
    due.is("step(0) after flips() of an unlawful cube", cube.step(0), 1);
  }

  private static void unlawfulCubes(Due due) {
    StageCube cube = new StageCube();
    cube.corner(0, 1, 0);
    due.is("flips() without a corner", cube.flips(), StageCube.NO_CORNERS);
    cube.home();
    cube.edge(0, 1, 0);
    due.is("flips() without an edge", cube.flips(), StageCube.NO_EDGES);
    cube.home();
    cube.corner(6, 6, 2);
    due.is("flips() with a twist", cube.flips(), StageCube.TWISTED);
    cube.home();
    cube.edge(9, 9, 1);
    due.is("flips() with a flip", cube.flips(), StageCube.FLIPPED);
    cube.home();
    cube.edge(3, 8, 0);
    cube.edge(8, 3, 0);
    due.is("flips() with a swap", cube.flips(), StageCube.ODD);
  }
}
