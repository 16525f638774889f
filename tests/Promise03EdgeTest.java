/** Promise 3: edge puts an edge with a flip at a position, or answers BAD and does nothing. */
public final class Promise03EdgeTest {
  public static void main(String[] args) {
    Due due = new Due();
    everyPieceEverywhere(due);
    whatWasThereIsGone(due);
    theOtherOneStays(due);
    thePieceThatIsThere(due);
    wrongPosition(due);
    wrongPiece(due);
    wrongFlip(due);
    severalWrong(due);
    rightForACornerAlone(due);
    isNoTurn(due);
    due.end();
  }

  private static void everyPieceEverywhere(Due due) {
    due.by("'An edge piece (0 .. 11) with a flip likewise'");
    for (int position = 0; position < 12; position++) {
      ModelCube model = new ModelCube();
      StageCube cube = new StageCube();
      for (int piece = 0; piece < 12; piece++) {
        for (int flip = 0; flip < 2; flip++) {
          String call = "edge(" + position + ", " + piece + ", " + flip + ")";
          due.is(call, cube.edge(position, piece, flip), 1);
          model.edge[position] = piece;
          model.flip[position] = flip;
          model.compare(call, cube, due);
        }
      }
    }
  }

  private static void whatWasThereIsGone(Due due) {
    due.by("'likewise': what was there is gone");
    StageCube cube = new StageCube();
    cube.edge(2, 10, 1);
    for (int i = 0; i < 12; i++) {
      due.is("whether edge 2 is at " + i, cube.at(1, i) / 2 == 2 ? 1 : 0, 0);
    }
    due.is("lawful()", cube.lawful(), StageCube.NO_EDGES);
    cube.edge(10, 3, 0);
    cube.edge(2, 2, 0);
    due.is("lawful() with edge 2 back and 10 gone", cube.lawful(), StageCube.NO_EDGES);
    cube.edge(10, 10, 0);
    due.is("isHome() with both back", cube.isHome(), 1);
  }

  private static void theOtherOneStays(Due due) {
    due.by("'likewise': what was there is gone, and nothing else");
    StageCube cube = new StageCube();
    cube.edge(2, 10, 1);
    due.is("at(1, 2)", cube.at(1, 2), 21);
    due.is("at(1, 10)", cube.at(1, 10), 20);
  }

  private static void thePieceThatIsThere(Due due) {
    due.by("'likewise': what was there is gone, the same piece");
    StageCube cube = new StageCube();
    due.is("edge(5, 5, 0)", cube.edge(5, 5, 0), 1);
    due.is("isHome()", cube.isHome(), 1);
    due.is("edge(5, 5, 1)", cube.edge(5, 5, 1), 1);
    due.is("edge(5, 5, 1) again", cube.edge(5, 5, 1), 1);
    due.is("at(1, 5)", cube.at(1, 5), 11);
    due.is("edge(5, 5, 0) at last", cube.edge(5, 5, 0), 1);
    due.is("isHome() at last", cube.isHome(), 1);
  }

  private static void wrongPosition(Due due) {
    due.by("'likewise': 1; BAD, position too small or too large");
    StageCube cube = new StageCube();
    for (int wrong : Wrong.numbers(12)) {
      due.is("edge(" + wrong + ", 5, 1)", cube.edge(wrong, 5, 1), StageCube.BAD);
    }
    new ModelCube().compare("after wrong calls", cube, due);
  }

  private static void wrongPiece(Due due) {
    due.by("'likewise': 1; BAD, piece too small or too large");
    StageCube cube = new StageCube();
    for (int wrong : Wrong.numbers(12)) {
      due.is("edge(1, " + wrong + ", 1)", cube.edge(1, wrong, 1), StageCube.BAD);
    }
    new ModelCube().compare("after wrong calls", cube, due);
  }

  private static void wrongFlip(Due due) {
    due.by("'likewise': 1; BAD, flip too small or too large");
    StageCube cube = new StageCube();
    for (int wrong : Wrong.numbers(2)) {
      due.is("edge(1, 2, " + wrong + ")", cube.edge(1, 2, wrong), StageCube.BAD);
    }
    new ModelCube().compare("after wrong calls", cube, due);
  }

  private static void severalWrong(Due due) {
    due.by("'likewise': 1; BAD, several wrong at once");
    StageCube cube = new StageCube();
    due.is("edge(12, 12, 0)", cube.edge(12, 12, 0), StageCube.BAD);
    due.is("edge(-1, 0, 2)", cube.edge(-1, 0, 2), StageCube.BAD);
    due.is("edge(0, -1, -1)", cube.edge(0, -1, -1), StageCube.BAD);
    due.is("edge(12, 12, 2)", cube.edge(12, 12, 2), StageCube.BAD);
    due.is("edge(-1, -1, -1)", cube.edge(-1, -1, -1), StageCube.BAD);
    new ModelCube().compare("after wrong calls", cube, due);
  }

  private static void rightForACornerAlone(Due due) {
    due.by("'with a flip', not a corner's twist 2");
    StageCube cube = new StageCube();
    due.is("edge(0, 0, 2)", cube.edge(0, 0, 2), StageCube.BAD);
    new ModelCube().compare("after a wrong call", cube, due);
  }

  private static void isNoTurn(Due due) {
    due.by("'how many turns were done', an edge that comes is none");
    StageCube cube = new StageCube();
    cube.edge(0, 1, 0);
    cube.edge(0, 12, 0);
    due.is("home()", cube.home(), 0);
  }
}
