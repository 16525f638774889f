import java.util.Random;

/** 'Terms', TURNS: their numbers, the rounds with their wrap-around, twists and flips. */
public final class TermsTurnsTest {
  // As the document writes the rounds, in the numbers of POSITIONS.
  private static final int[][] CORNERS = {
    {4, 6, 7, 5}, {0, 1, 3, 2}, {4, 0, 2, 6}, {5, 7, 3, 1}, {4, 5, 1, 0}, {7, 6, 2, 3}
  };
  private static final int[][] EDGES = {
    {6, 3, 7, 2}, {0, 5, 1, 4}, {8, 4, 10, 6}, {7, 11, 5, 9}, {2, 9, 0, 8}, {3, 10, 1, 11}
  };
  private static final int UP = 0;
  private static final int DOWN = 1;
  private static final int FRONT = 4;

  public static void main(String[] args) {
    Due due = new Due();
    firstAndLastTurn(due);
    cornersGoToTheNext(due);
    edgesGoToTheNext(due);
    lastOfTheRoundGoesToTheFirst(due);
    othersStay(due);
    twistsModulo3(due);
    upAndDownTwistNothing(due);
    frontAndBackFlip(due);
    otherFacesFlipNothing(due);
    halvesAreTwoQuarters(due);
    otherWayIsThreeQuarters(due);
    fourQuartersAreNone(due);
    due.end();
  }

  private static void firstAndLastTurn(Due due) {
    due.by("'TURNS are 0 .. 17'");
    StageCube cube = new StageCube();
    due.is("turn(-1)", cube.turn(-1), StageCube.BAD);
    due.is("turn(18)", cube.turn(18), StageCube.BAD);
    due.is("isHome()", cube.isHome(), 1);
    due.is("turn(0)", cube.turn(0), 1);
    due.is("at(0, 6) after turn(0)", cube.at(0, 6), 12);
    cube.home();
    due.is("turn(17)", cube.turn(17), 1);
    due.is("at(0, 7) after turn(17)", cube.at(0, 7) / 3, 6);
  }

  private static void cornersGoToTheNext(Due due) {
    due.by("'from a position to the next one', corners");
    for (int face = 0; face < 6; face++) {
      StageCube cube = new StageCube();
      cube.turn(3 * face);
      for (int i = 0; i < 3; i++) {
        int to = CORNERS[face][i + 1];
        due.is("at(0, " + to + ") / 3 after turn " + 3 * face, cube.at(0, to) / 3,
            CORNERS[face][i]);
      }
    }
  }

  private static void edgesGoToTheNext(Due due) {
    due.by("'Edges go likewise'");
    for (int face = 0; face < 6; face++) {
      StageCube cube = new StageCube();
      cube.turn(3 * face);
      for (int i = 0; i < 3; i++) {
        int to = EDGES[face][i + 1];
        due.is("at(1, " + to + ") / 2 after turn " + 3 * face, cube.at(1, to) / 2, EDGES[face][i]);
      }
    }
  }

  private static void lastOfTheRoundGoesToTheFirst(Due due) {
    due.by("'00, 01, 11, 10, 00'");
    for (int face = 0; face < 6; face++) {
      StageCube cube = new StageCube();
      cube.turn(3 * face);
      due.is("the corner at the first place after turn " + 3 * face,
          cube.at(0, CORNERS[face][0]) / 3, CORNERS[face][3]);
      due.is("the edge at the first place after turn " + 3 * face,
          cube.at(1, EDGES[face][0]) / 2, EDGES[face][3]);
    }
  }

  private static void othersStay(Due due) {
    due.by("'A quarter takes the pieces of its face round'");
    for (int face = 0; face < 6; face++) {
      StageCube cube = new StageCube();
      cube.turn(3 * face);
      // The opposite faces are beside one another in the list.
      for (int corner : CORNERS[face ^ 1]) {
        due.is("at(0, " + corner + ") after turn " + 3 * face, cube.at(0, corner), 3 * corner);
      }
      for (int edge : EDGES[face ^ 1]) {
        due.is("at(1, " + edge + ") after turn " + 3 * face, cube.at(1, edge), 2 * edge);
      }
    }
  }

  private static void twistsModulo3(Due due) {
    due.by("'1 more twist, one that changes 2 more (modulo 3)'");
    for (int face = 2; face < 6; face++) {
      for (int twist = 0; twist < 3; twist++) {
        StageCube cube = new StageCube();
        for (int corner : CORNERS[face]) {
          cube.corner(corner, corner, twist);
        }
        cube.turn(3 * face);
        for (int i = 0; i < 4; i++) {
          int from = CORNERS[face][i];
          int to = CORNERS[face][(i + 1) % 4];
          boolean stays = from < 4 == to < 4;
          due.is("the twist at " + to + ", before " + twist + ", after turn " + 3 * face,
              cube.at(0, to) % 3, (twist + (stays ? 1 : 2)) % 3);
        }
      }
    }
  }

  private static void upAndDownTwistNothing(Due due) {
    due.by("'With a quarter of left, right, front or back'");
    for (int face = UP; face <= DOWN; face++) {
      for (int twist = 0; twist < 3; twist++) {
        StageCube cube = new StageCube();
        for (int corner : CORNERS[face]) {
          cube.corner(corner, corner, twist);
        }
        cube.turn(3 * face);
        for (int corner : CORNERS[face]) {
          due.is("the twist at " + corner + " after turn " + 3 * face, cube.at(0, corner) % 3,
              twist);
        }
      }
    }
  }

  private static void frontAndBackFlip(Due due) {
    due.by("'with one of front or back each edge that goes is flipped'");
    for (int face = FRONT; face < 6; face++) {
      for (int flip = 0; flip < 2; flip++) {
        compareFlips(face, flip, 1 - flip, due);
      }
    }
  }

  private static void otherFacesFlipNothing(Due due) {
    due.by("'with one of front or back', and no other face");
    for (int face = 0; face < FRONT; face++) {
      for (int flip = 0; flip < 2; flip++) {
        compareFlips(face, flip, flip, due);
      }
    }
  }

  private static void compareFlips(int face, int before, int after, Due due) {
    StageCube cube = new StageCube();
    for (int edge : EDGES[face]) {
      cube.edge(edge, edge, before);
    }
    cube.turn(3 * face);
    for (int edge : EDGES[face]) {
      due.is("the flip at " + edge + ", before " + before + ", after turn " + 3 * face,
          cube.at(1, edge) % 2, after);
    }
  }

  private static void halvesAreTwoQuarters(Due due) {
    due.by("'Half turns are two quarters'");
    for (int face = 0; face < 6; face++) {
      compareTurns(3 * face + 1, 3 * face, 2, due);
    }
  }

  private static void otherWayIsThreeQuarters(Due due) {
    due.by("'the other way three'");
    for (int face = 0; face < 6; face++) {
      compareTurns(3 * face + 2, 3 * face, 3, due);
    }
  }

  private static void fourQuartersAreNone(Due due) {
    due.by("'takes the pieces of its face round', four times");
    for (int turn = 0; turn < 18; turn++) {
      StageCube cube = scattered();
      StageCube same = scattered();
      for (int i = 0; i < 4; i++) {
        cube.turn(turn);
      }
      compareAll("four times turn " + turn, cube, same, due);
    }
  }

  /** One turn does the same as another one done several times, whatever the pieces are. */
  private static void compareTurns(int turn, int quarter, int times, Due due) {
    StageCube cube = scattered();
    StageCube other = scattered();
    cube.turn(turn);
    for (int i = 0; i < times; i++) {
      other.turn(quarter);
    }
    compareAll("turn " + turn, cube, other, due);
  }

  private static StageCube scattered() {
    ModelCube model = new ModelCube();
    model.scatter(new Random(18));
    StageCube cube = new StageCube();
    model.setUp(cube, new Due());
    return cube;
  }

  private static void compareAll(String when, StageCube cube, StageCube other, Due due) {
    for (int i = 0; i < 8; i++) {
      due.is("at(0, " + i + ") after " + when, cube.at(0, i), other.at(0, i));
    }
    for (int i = 0; i < 12; i++) {
      due.is("at(1, " + i + ") after " + when, cube.at(1, i), other.at(1, i));
    }
  }
}
