import java.util.Random;

/** Promise 4: at tells piece and twist or flip of a position, BAD for what is not there. */
public final class Promise04AtTest {
  public static void main(String[] args) {
    Due due = new Due();
    scatteredPieces(due);
    leastAndMost(due);
    wrongWhat(due);
    wrongCornerPosition(due);
    wrongEdgePosition(due);
    bothWrong(due);
    changesNothing(due);
    due.end();
  }

  private static void scatteredPieces(Due due) {
    due.by("'3 times the corner and its twist (what = 0), twice the edge and its flip (1)'");
    Random random = new Random(4);
    for (int round = 0; round < 100; round++) {
      ModelCube model = new ModelCube();
      StageCube cube = new StageCube();
      model.scatter(random);
      model.setUp(cube, due);
      model.compare("scattered", cube, due);
    }
  }

  private static void leastAndMost(Due due) {
    due.by("'3 times the corner and its twist ..', the least and the most");
    StageCube cube = new StageCube();
    cube.corner(0, 7, 2);
    cube.corner(7, 0, 0);
    cube.edge(0, 11, 1);
    cube.edge(11, 0, 0);
    due.is("at(0, 0)", cube.at(0, 0), 23);
    due.is("at(0, 7)", cube.at(0, 7), 0);
    due.is("at(1, 0)", cube.at(1, 0), 23);
    due.is("at(1, 11)", cube.at(1, 11), 0);
  }

  private static void wrongWhat(Due due) {
    due.by("'BAD', what too small or too large");
    StageCube cube = new StageCube();
    for (int wrong : Wrong.numbers(2)) {
      due.is("at(" + wrong + ", 0)", cube.at(wrong, 0), StageCube.BAD);
      due.is("at(" + wrong + ", 7)", cube.at(wrong, 7), StageCube.BAD);
    }
  }

  private static void wrongCornerPosition(Due due) {
    due.by("'BAD', position of a corner too small or too large");
    StageCube cube = new StageCube();
    for (int wrong : Wrong.numbers(8)) {
      due.is("at(0, " + wrong + ")", cube.at(0, wrong), StageCube.BAD);
    }
    for (int edge = 8; edge < 12; edge++) {
      due.is("at(0, " + edge + ")", cube.at(0, edge), StageCube.BAD);
      due.is("at(1, " + edge + ")", cube.at(1, edge), 2 * edge);
    }
  }

  private static void wrongEdgePosition(Due due) {
    due.by("'BAD', position of an edge too small or too large");
    StageCube cube = new StageCube();
    for (int wrong : Wrong.numbers(12)) {
      due.is("at(1, " + wrong + ")", cube.at(1, wrong), StageCube.BAD);
    }
  }

  private static void bothWrong(Due due) {
    due.by("'BAD', both wrong");
    StageCube cube = new StageCube();
    due.is("at(-1, -1)", cube.at(-1, -1), StageCube.BAD);
    due.is("at(2, 12)", cube.at(2, 12), StageCube.BAD);
    due.is("at(2, 8)", cube.at(2, 8), StageCube.BAD);
  }

  private static void changesNothing(Due due) {
    due.by("'BAD', and the cube stays");
    StageCube cube = new StageCube();
    cube.at(2, 0);
    cube.at(0, 8);
    cube.at(1, 12);
    cube.at(-1, -1);
    new ModelCube().compare("after wrong calls", cube, due);
  }
}
