/** Promise 2: corner puts a corner with a twist at a position, or answers BAD and does nothing. */
public final class Promise02CornerTest {
  public static void main(String[] args) {
    Due due = new Due();
    for (int position = 0; position < 8; position++) {
      everyPieceAt(position, due);
    }
    wrongNumbers(due);
    due.end();
  }

  private static void everyPieceAt(int position, Due due) {
    ModelCube model = new ModelCube();
    StageCube cube = new StageCube();
    for (int piece = 0; piece < 8; piece++) {
      for (int twist = 0; twist < 3; twist++) {
        String call = "corner(" + position + ", " + piece + ", " + twist + ")";
        due.is(call, cube.corner(position, piece, twist), 1);
        model.corner[position] = piece;
        model.twist[position] = twist;
        model.compare(call, cube, due);
      }
    }
  }

  private static void wrongNumbers(Due due) {
    StageCube cube = new StageCube();
    for (int wrong : Wrong.numbers(8)) {
      due.is("corner(" + wrong + ", 5, 1)", cube.corner(wrong, 5, 1), StageCube.BAD);
      due.is("corner(1, " + wrong + ", 1)", cube.corner(1, wrong, 1), StageCube.BAD);
    }
    for (int wrong : Wrong.numbers(3)) {
      due.is("corner(1, 2, " + wrong + ")", cube.corner(1, 2, wrong), StageCube.BAD);
    }
    new ModelCube().compare("after wrong calls", cube, due);
  }
}
