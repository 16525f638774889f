/** Promise 3: edge puts an edge with a flip at a position, or answers BAD and does nothing. */
public final class Promise03EdgeTest {
  public static void main(String[] args) {
    Due due = new Due();
    for (int position = 0; position < 12; position++) {
      everyPieceAt(position, due);
    }
    wrongNumbers(due);
    due.end();
  }

  private static void everyPieceAt(int position, Due due) {
    ModelCube model = new ModelCube();
    StageCube cube = new StageCube();
    for (int piece = 0; piece < 12; piece++) {
      for (int flip = 0; flip < 2; flip++) {
        String call = "edge(" + position + ", " + piece + ", " + flip + ")";
        due.is(call, cube.edge(position, piece, flip), 1);
        model.edge[position] = piece;
        model.flip[position] = flip;
        model.compare(call, cube, due);
      }
    }
  }

  private static void wrongNumbers(Due due) {
    StageCube cube = new StageCube();
    for (int wrong : Wrong.numbers(12)) {
      due.is("edge(" + wrong + ", 5, 1)", cube.edge(wrong, 5, 1), StageCube.BAD);
      due.is("edge(1, " + wrong + ", 1)", cube.edge(1, wrong, 1), StageCube.BAD);
    }
    for (int wrong : Wrong.numbers(2)) {
      due.is("edge(1, 2, " + wrong + ")", cube.edge(1, 2, wrong), StageCube.BAD);
    }
    new ModelCube().compare("after wrong calls", cube, due);
  }
}
