/** 'Terms', POSITIONS: the numbers of corners and edges, of twists and flips, and their ends. */
public final class TermsPositionsTest {
  // Up, down, left, right, front, back: z = 1, z = 0, x = 0, x = 1, y = 0, y = 1.
  private static final int[][] CORNERS_OF_FACES = {
    {4, 5, 6, 7}, {0, 1, 2, 3}, {0, 2, 4, 6}, {1, 3, 5, 7}, {0, 1, 4, 5}, {2, 3, 6, 7}
  };
  private static final int[][] EDGES_OF_FACES = {
    {2, 3, 6, 7}, {0, 1, 4, 5}, {4, 6, 8, 10}, {5, 7, 9, 11}, {0, 2, 8, 9}, {1, 3, 10, 11}
  };

  public static void main(String[] args) {
    Due due = new Due();
    cornersByCoordinates(due);
    edgesByCoordinates(due);
    firstAndLastCorner(due);
    firstAndLastEdgeOfEachDirection(due);
    leastAndMostTwist(due);
    leastAndMostFlip(due);
    home(due);
    due.end();
  }

  private static void cornersByCoordinates(Due due) {
    due.by("'The CORNERS are 4 z + 2 y + x'");
    for (int face = 0; face < 6; face++) {
      StageCube cube = new StageCube();
      cube.turn(3 * face + 1);
      for (int i = 0; i < 8; i++) {
        boolean stays = cube.at(0, i) == 3 * i;
        due.is("whether corner " + i + " goes with face " + face, stays ? 0 : 1,
            isAmong(i, CORNERS_OF_FACES[face]));
      }
    }
  }

  private static void edgesByCoordinates(Due due) {
    due.by("'the EDGES that go from left to right 2 z + y, ..'");
    for (int face = 0; face < 6; face++) {
      StageCube cube = new StageCube();
      cube.turn(3 * face + 1);
      for (int i = 0; i < 12; i++) {
        boolean stays = cube.at(1, i) == 2 * i;
        due.is("whether edge " + i + " goes with face " + face, stays ? 0 : 1,
            isAmong(i, EDGES_OF_FACES[face]));
      }
    }
  }

  private static int isAmong(int number, int[] numbers) {
    for (int one : numbers) {
      if (one == number) {
        return 1;
      }
    }
    return 0;
  }

  private static void firstAndLastCorner(Due due) {
    due.by("'The CORNERS are 4 z + 2 y + x', 0 .. 7");
    StageCube cube = new StageCube();
    due.is("corner(0, 7, 0)", cube.corner(0, 7, 0), 1);
    due.is("corner(7, 0, 0)", cube.corner(7, 0, 0), 1);
    due.is("at(0, 0)", cube.at(0, 0), 21);
    due.is("at(0, 7)", cube.at(0, 7), 0);
    due.is("corner(-1, 0, 0)", cube.corner(-1, 0, 0), StageCube.BAD);
    due.is("corner(8, 0, 0)", cube.corner(8, 0, 0), StageCube.BAD);
  }

  private static void firstAndLastEdgeOfEachDirection(Due due) {
    due.by("'the EDGES ..', 0 .. 3, 4 .. 7 and 8 .. 11");
    int[] ends = {0, 3, 4, 7, 8, 11};
    StageCube cube = new StageCube();
    for (int i = 0; i < ends.length; i++) {
      int other = ends[ends.length - 1 - i];
      due.is("edge(" + ends[i] + ", " + other + ", 1)", cube.edge(ends[i], other, 1), 1);
    }
    for (int i = 0; i < ends.length; i++) {
      int other = ends[ends.length - 1 - i];
      due.is("at(1, " + ends[i] + ")", cube.at(1, ends[i]), 2 * other + 1);
    }
    due.is("edge(-1, 0, 0)", cube.edge(-1, 0, 0), StageCube.BAD);
    due.is("edge(12, 0, 0)", cube.edge(12, 0, 0), StageCube.BAD);
  }

  private static void leastAndMostTwist(Due due) {
    due.by("'a corner with a TWIST 0 .. 2'");
    StageCube cube = new StageCube();
    due.is("corner(3, 3, 2)", cube.corner(3, 3, 2), 1);
    due.is("at(0, 3)", cube.at(0, 3), 11);
    due.is("corner(3, 3, 3)", cube.corner(3, 3, 3), StageCube.BAD);
    due.is("corner(3, 3, -1)", cube.corner(3, 3, -1), StageCube.BAD);
    due.is("at(0, 3) after wrong twists", cube.at(0, 3), 11);
    due.is("corner(3, 3, 0)", cube.corner(3, 3, 0), 1);
    due.is("at(0, 3) without twist", cube.at(0, 3), 9);
  }

  private static void leastAndMostFlip(Due due) {
    due.by("'an edge with a FLIP 0, 1'");
    StageCube cube = new StageCube();
    due.is("edge(3, 3, 1)", cube.edge(3, 3, 1), 1);
    due.is("at(1, 3)", cube.at(1, 3), 7);
    due.is("edge(3, 3, 2)", cube.edge(3, 3, 2), StageCube.BAD);
    due.is("edge(3, 3, -1)", cube.edge(3, 3, -1), StageCube.BAD);
    due.is("at(1, 3) after wrong flips", cube.at(1, 3), 7);
    due.is("edge(3, 3, 0)", cube.edge(3, 3, 0), 1);
    due.is("at(1, 3) without flip", cube.at(1, 3), 6);
  }

  private static void home(Due due) {
    due.by("'HOME is the cube with all pieces at home, twists and flips 0'");
    StageCube cube = new StageCube();
    for (int i = 0; i < 8; i++) {
      due.is("at(0, " + i + ")", cube.at(0, i), 3 * i);
    }
    for (int i = 0; i < 12; i++) {
      due.is("at(1, " + i + ")", cube.at(1, i), 2 * i);
    }
  }
}
