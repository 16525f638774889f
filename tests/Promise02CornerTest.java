/** Promise 2: corner puts a corner with a twist at a position, or answers BAD and does nothing. */
public final class Promise02CornerTest {
  public static void main(String[] args) {
    Due due = new Due();
    everyPieceEverywhere(due);
    whatWasThereIsGone(due);
    theOtherOneStays(due);
    thePieceThatIsThere(due);
    wrongPosition(due);
    wrongPiece(due);
    wrongTwist(due);
    severalWrong(due);
    rightForAnEdgeAlone(due);
    isNoTurn(due);
    due.end();
  }

  private static void everyPieceEverywhere(Due due) {
    due.by("'A corner piece (0 .. 7) with a twist comes to a position'");
    for (int position = 0; position < 8; position++) {
      ModelCube model = new ModelCube();
      StageCube cube = new StageCube();
      for (int piece = 0; piece < 8; piece++) {
        for (int twist = 0; twist < 3; twist++) {
          String call = "corner(" + position + ", " + piece + ", " + twist + ")";
          due.is(call, cube.corner(position, piece, twist), 1);
          model.corner[position] = piece;
          model.twist[position] = twist;
          model.compare(call, cube, due);
        }
      }
    }
  }

  private static void whatWasThereIsGone(Due due) {
    due.by("'(what was there is gone)'");
    StageCube cube = new StageCube();
    cube.corner(2, 6, 1);
    for (int i = 0; i < 8; i++) {
      due.is("whether corner 2 is at " + i, cube.at(0, i) / 3 == 2 ? 1 : 0, 0);
    }
    due.is("lawful()", cube.lawful(), StageCube.NO_CORNERS);
    cube.corner(6, 3, 0);
    cube.corner(2, 2, 0);
    due.is("lawful() with corner 2 back and 6 gone", cube.lawful(), StageCube.NO_CORNERS);
    cube.corner(6, 6, 0);
    due.is("isHome() with both back", cube.isHome(), 1);
  }

  private static void theOtherOneStays(Due due) {
    due.by("'(what was there is gone)', and nothing else");
    StageCube cube = new StageCube();
    cube.corner(2, 6, 1);
    due.is("at(0, 2)", cube.at(0, 2), 19);
    due.is("at(0, 6)", cube.at(0, 6), 18);
  }

  private static void thePieceThatIsThere(Due due) {
    due.by("'(what was there is gone)', the same piece");
    StageCube cube = new StageCube();
    due.is("corner(5, 5, 0)", cube.corner(5, 5, 0), 1);
    due.is("isHome()", cube.isHome(), 1);
    due.is("corner(5, 5, 2)", cube.corner(5, 5, 2), 1);
    due.is("corner(5, 5, 2) again", cube.corner(5, 5, 2), 1);
    due.is("at(0, 5)", cube.at(0, 5), 17);
    due.is("corner(5, 5, 1)", cube.corner(5, 5, 1), 1);
    due.is("at(0, 5) with the last twist alone", cube.at(0, 5), 16);
  }

  private static void wrongPosition(Due due) {
    due.by("'1; BAD', position too small or too large");
    StageCube cube = new StageCube();
    for (int wrong : Wrong.numbers(8)) {
      due.is("corner(" + wrong + ", 5, 1)", cube.corner(wrong, 5, 1), StageCube.BAD);
    }
    new ModelCube().compare("after wrong calls", cube, due);
  }

  private static void wrongPiece(Due due) {
    due.by("'1; BAD', piece too small or too large");
    StageCube cube = new StageCube();
    for (int wrong : Wrong.numbers(8)) {
      due.is("corner(1, " + wrong + ", 1)", cube.corner(1, wrong, 1), StageCube.BAD);
    }
    new ModelCube().compare("after wrong calls", cube, due);
  }

  private static void wrongTwist(Due due) {
    due.by("'1; BAD', twist too small or too large");
    StageCube cube = new StageCube();
    for (int wrong : Wrong.numbers(3)) {
      due.is("corner(1, 2, " + wrong + ")", cube.corner(1, 2, wrong), StageCube.BAD);
    }
    new ModelCube().compare("after wrong calls", cube, due);
  }

  private static void severalWrong(Due due) {
    due.by("'1; BAD', several wrong at once");
    StageCube cube = new StageCube();
    due.is("corner(8, 8, 0)", cube.corner(8, 8, 0), StageCube.BAD);
    due.is("corner(-1, 0, 3)", cube.corner(-1, 0, 3), StageCube.BAD);
    due.is("corner(0, -1, -1)", cube.corner(0, -1, -1), StageCube.BAD);
    due.is("corner(8, 8, 3)", cube.corner(8, 8, 3), StageCube.BAD);
    due.is("corner(-1, -1, -1)", cube.corner(-1, -1, -1), StageCube.BAD);
    new ModelCube().compare("after wrong calls", cube, due);
  }

  private static void rightForAnEdgeAlone(Due due) {
    due.by("'A corner piece (0 .. 7)', not an edge's 8 .. 11");
    StageCube cube = new StageCube();
    for (int i = 8; i < 12; i++) {
      due.is("corner(" + i + ", 0, 0)", cube.corner(i, 0, 0), StageCube.BAD);
      due.is("corner(0, " + i + ", 0)", cube.corner(0, i, 0), StageCube.BAD);
    }
    new ModelCube().compare("after wrong calls", cube, due);
  }

  private static void isNoTurn(Due due) {
    due.by("'how many turns were done', a corner that comes is none");
    StageCube cube = new StageCube();
    cube.corner(0, 1, 0);
    cube.corner(0, 8, 0);
    due.is("home()", cube.home(), 0);
  }
}
