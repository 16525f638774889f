import java.util.List;
import java.util.Random;

/**
 * Promise 9: solve finds THE WAY HOME, with each stage the shortest and of those the first, as
 * the distances of all states tell it. (stage and step tell the way, so they are tested too.)
 */
public final class Promise09SolveTest {
  private static final Random RANDOM = new Random(9);
  // One comparison is some 160 calls, and an object is used for at most 512.
  private static final int COMPARISONS_OF_ONE_OBJECT = 3;

  private static StageCube cube = null;
  private static int comparisons = 0;

  public static void main(String[] args) {
    Due due = new Due();
    ModelWay model = new ModelWay();
    countStates(model, due);
    mixedCubes(model, due);
    for (int stage = 0; stage < 4; stage++) {
      farthestCubes(model, stage, due);
      cubesOfEachLength(model, stage, due);
    }
    unlawfulCubes(due);
    due.end();
  }

  /** The known numbers of states; for the last, that all lawful cubes of its kind are met. */
  private static void countStates(ModelWay model, Due due) {
    int[] states = {2048, 2187 * 495, 420 * 70, 96 * 24 * 24 * 24 / 2};
    int[] longest = {7, 10, 13, 15};
    for (int stage = 0; stage < 4; stage++) {
      due.is("states of stage " + stage, model.distances(stage).order.size(), states[stage]);
      due.is("longest of stage " + stage, model.distances(stage).longest(), longest[stage]);
    }
  }

  private static void mixedCubes(ModelWay model, Due due) {
    for (int round = 0; round < 500; round++) {
      ModelCube mixed = new ModelCube();
      mixed.mix(RANDOM, round % 5 == 0 ? RANDOM.nextInt(8) : 60);
      compare(model, mixed, due);
    }
  }

  private static void farthestCubes(ModelWay model, int stage, Due due) {
    List<Long> order = model.distances(stage).order;
    int count = Math.min(10, order.size());
    for (int i = 1; i <= count; i++) {
      compare(model, model.cubeOf(stage, order.get(order.size() - i)), due);
    }
  }

  private static void cubesOfEachLength(ModelWay model, int stage, Due due) {
    List<Long> order = model.distances(stage).order;
    int longest = model.distances(stage).longest();
    int[] met = new int[longest + 1];
    int step = Math.max(1, order.size() / 5000);
    for (int i = 0; i < order.size(); i += i < 200 ? 1 : step) {
      int length = model.distances(stage).of(order.get(i));
      if (met[length] < 12) {
        met[length]++;
        compare(model, model.cubeOf(stage, order.get(i)), due);
      }
    }
  }

  private static void compare(ModelWay model, ModelCube start, Due due) {
    if (comparisons % COMPARISONS_OF_ONE_OBJECT == 0) {
      cube = new StageCube();
    }
    comparisons++;
    start.setUp(cube, due);
    int total = cube.solve();
    start.compare("the cube after solve()", cube, due);
    ModelCube walker = start.copy();
    int met = 0;
    for (int stage = 0; stage < 4; stage++) {
      List<Integer> way = model.walk(stage, walker);
      due.is("stage(" + (stage + 1) + ")", cube.stage(stage + 1), way.size());
      for (int turn : way) {
        due.is("step(" + met + ")", cube.step(met), turn);
        met++;
      }
    }
    due.is("the model is home", walker.isHome() ? 1 : 0, 1);
    due.is("solve()", total, met);
    due.is("step() after the last", cube.step(met), StageCube.BAD);
    for (int i = 0; i < total; i++) {
      cube.turn(cube.step(i));
    }
    due.is("isHome() at the end of the way", cube.isHome(), 1);
  }

  private static void unlawfulCubes(Due due) {
    StageCube cube = new StageCube();
    cube.corner(0, 1, 0);
    due.is("solve() without a corner", cube.solve(), StageCube.NO_CORNERS);
    cube.home();
    cube.edge(0, 1, 0);
    due.is("solve() without an edge", cube.solve(), StageCube.NO_EDGES);
    cube.home();
    cube.corner(6, 6, 2);
    due.is("solve() with a twist", cube.solve(), StageCube.TWISTED);
    cube.home();
    cube.edge(9, 9, 1);
    due.is("solve() with a flip", cube.solve(), StageCube.FLIPPED);
    cube.home();
    cube.edge(3, 8, 0);
    cube.edge(8, 3, 0);
    due.is("solve() with a swap", cube.solve(), StageCube.ODD);
    due.is("at(1, 3) after solve()", cube.at(1, 3), 16);
  }
}
