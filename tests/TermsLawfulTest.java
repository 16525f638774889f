/** 'Terms', LAWFUL: the least and most sums, pieces there twice or not at all, and swaps. */
public final class TermsLawfulTest {
  public static void main(String[] args) {
    Due due = new Due();
    twistSums(due);
    flipSums(due);
    onePieceTwice(due);
    onePieceEverywhere(due);
    allInOtherPlaces(due);
    bothEven(due);
    bothOdd(due);
    onlyCornersOdd(due);
    onlyEdgesOdd(due);
    swapsHaveNothingToDoWithMarks(due);
    due.end();
  }

  /** Every sum there can be, from 0 to the most, 16. */
  private static void twistSums(Due due) {
    due.by("'whose twists have a sum that 3 divides'");
    for (int sum = 0; sum <= 16; sum++) {
      StageCube cube = new StageCube();
      int rest = sum;
      for (int i = 7; i >= 0; i--) {
        int twist = Math.min(2, rest);
        cube.corner(i, i, twist);
        rest -= twist;
      }
      due.is("lawful() with twists of sum " + sum, cube.lawful(),
          sum % 3 == 0 ? 1 : StageCube.TWISTED);
    }
  }

  /** Every sum there can be, from 0 to the most, 12. */
  private static void flipSums(Due due) {
    due.by("'whose flips an even one'");
    for (int sum = 0; sum <= 12; sum++) {
      StageCube cube = new StageCube();
      for (int i = 0; i < sum; i++) {
        cube.edge(11 - i, 11 - i, 1);
      }
      due.is("lawful() with flips of sum " + sum, cube.lawful(),
          sum % 2 == 0 ? 1 : StageCube.FLIPPED);
    }
  }

  private static void onePieceTwice(Due due) {
    due.by("'whose corners and edges are each there once'");
    for (int i = 0; i < 8; i++) {
      StageCube cube = new StageCube();
      cube.corner(i, 7 - i, 0);
      due.is("lawful() with corner " + (7 - i) + " twice", cube.lawful(), StageCube.NO_CORNERS);
    }
    for (int i = 0; i < 12; i++) {
      StageCube cube = new StageCube();
      cube.edge(i, 11 - i, 0);
      due.is("lawful() with edge " + (11 - i) + " twice", cube.lawful(), StageCube.NO_EDGES);
    }
  }

  private static void onePieceEverywhere(Due due) {
    due.by("'whose corners and edges are each there once', one everywhere");
    for (int piece = 0; piece < 8; piece++) {
      StageCube cube = new StageCube();
      for (int i = 0; i < 8; i++) {
        cube.corner(i, piece, 0);
      }
      due.is("lawful() with corners " + piece + " alone", cube.lawful(), StageCube.NO_CORNERS);
    }
    for (int piece = 0; piece < 12; piece++) {
      StageCube cube = new StageCube();
      for (int i = 0; i < 12; i++) {
        cube.edge(i, piece, 0);
      }
      due.is("lawful() with edges " + piece + " alone", cube.lawful(), StageCube.NO_EDGES);
    }
  }

  /** Four swaps of corners and six of edges: no piece is at home. */
  private static void allInOtherPlaces(Due due) {
    due.by("'whose corners and edges are each there once', none at home");
    StageCube cube = new StageCube();
    for (int i = 0; i < 8; i++) {
      cube.corner(i, 7 - i, 0);
    }
    for (int i = 0; i < 12; i++) {
      cube.edge(i, 11 - i, 0);
    }
    due.is("lawful()", cube.lawful(), 1);
  }

  private static void bothEven(Due due) {
    due.by("'both moved by an even ..'");
    StageCube cube = new StageCube();
    roundOfCorners(cube, 5, 6, 7);
    due.is("lawful() with a round of three corners", cube.lawful(), 1);
    roundOfEdges(cube, 9, 10, 11);
    due.is("lawful() with rounds of three corners and three edges", cube.lawful(), 1);
  }

  private static void bothOdd(Due due) {
    due.by("'.. or both by an odd number of swaps'");
    StageCube cube = new StageCube();
    roundOfCorners(cube, 0, 7);
    roundOfEdges(cube, 0, 11);
    due.is("lawful() with two corners and two edges swapped", cube.lawful(), 1);
    cube.home();
    roundOfCorners(cube, 0, 1, 2, 3, 4, 5, 6, 7);
    roundOfEdges(cube, 0, 1, 2, 3, 4, 5, 6, 7, 8, 9, 10, 11);
    due.is("lawful() with all in one round", cube.lawful(), 1);
  }

  private static void onlyCornersOdd(Due due) {
    due.by("'both .. or both', the corners alone odd");
    for (int one = 0; one < 8; one++) {
      for (int other = one + 1; other < 8; other++) {
        StageCube cube = new StageCube();
        roundOfCorners(cube, one, other);
        due.is("lawful() with corners " + one + " and " + other + " swapped", cube.lawful(),
            StageCube.ODD);
      }
    }
    StageCube cube = new StageCube();
    roundOfCorners(cube, 0, 1, 2, 3, 4, 5, 6, 7);
    due.is("lawful() with all corners in one round", cube.lawful(), StageCube.ODD);
  }

  private static void onlyEdgesOdd(Due due) {
    due.by("'both .. or both', the edges alone odd");
    for (int one = 0; one < 12; one++) {
      for (int other = one + 1; other < 12; other++) {
        StageCube cube = new StageCube();
        roundOfEdges(cube, one, other);
        due.is("lawful() with edges " + one + " and " + other + " swapped", cube.lawful(),
            StageCube.ODD);
      }
    }
    StageCube cube = new StageCube();
    roundOfEdges(cube, 0, 1, 2, 3, 4, 5, 6, 7, 8, 9, 10, 11);
    due.is("lawful() with all edges in one round", cube.lawful(), StageCube.ODD);
  }

  private static void swapsHaveNothingToDoWithMarks(Due due) {
    due.by("'moved by an even .. number of swaps', all twisted and flipped");
    StageCube cube = new StageCube();
    for (int i = 0; i < 6; i++) {
      cube.corner(i, i, 2);
    }
    for (int i = 0; i < 12; i++) {
      cube.edge(i, i, 1);
    }
    due.is("lawful()", cube.lawful(), 1);
    cube.corner(6, 7, 0);
    cube.corner(7, 6, 0);
    due.is("lawful() with two corners swapped", cube.lawful(), StageCube.ODD);
  }

  private static void roundOfCorners(StageCube cube, int... round) {
    for (int i = 0; i < round.length; i++) {
      cube.corner(round[(i + 1) % round.length], round[i], 0);
    }
  }

  private static void roundOfEdges(StageCube cube, int... round) {
    for (int i = 0; i < round.length; i++) {
      cube.edge(round[(i + 1) % round.length], round[i], 0);
    }
  }
}
