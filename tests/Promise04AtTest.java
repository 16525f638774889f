import java.util.Random;

/** Promise 4: at tells piece and twist or flip of a position, BAD for what is not there. */
public final class Promise04AtTest {
  public static void main(String[] args) {
    Due due = new Due();
    Random random = new Random(4);
    for (int round = 0; round < 100; round++) {
      ModelCube model = new ModelCube();
      StageCube cube = new StageCube();
      model.scatter(random);
      model.setUp(cube, due);
      model.compare("scattered", cube, due);
    }
    StageCube cube = new StageCube();
    for (int wrong : Wrong.numbers(8)) {
      due.is("at(0, " + wrong + ")", cube.at(0, wrong), StageCube.BAD);
    }
    for (int wrong : Wrong.numbers(12)) {
      due.is("at(1, " + wrong + ")", cube.at(1, wrong), StageCube.BAD);
    }
    for (int wrong : Wrong.numbers(2)) {
      due.is("at(" + wrong + ", 0)", cube.at(wrong, 0), StageCube.BAD);
    }
    new ModelCube().compare("after wrong calls", cube, due);
    due.end();
  }
}
