import java.util.List;
import java.util.Random;

/**
 * Promise 9: solve finds THE WAY HOME, with each stage the shortest and of those the first, as
 * the distances of all states tell it. (stage and step tell the way, so they are tested too.)
 */
public final class Promise09SolveTest {
  private static final Random RANDOM = new Random(9);
  // One comparison is some 160 calls, and an object is used for at most 512.
  private static final int COMPARISONS_OF_ONE_OBJECT = 3;
  private static final int[] LONGEST = {7, 10, 13, 15};

  private static StageCube cube = null;
  private static int comparisons = 0;

  public static void main(String[] args) {
    Due due = new Due();
    ModelWay model = new ModelWay();
    countStates(model, due);
    mixedCubes(model, due);
    for (int stage = 0; stage < 4; stage++) {
      farthestCubes(model, stage, due);
      cubesOfEachLength(model, stage, due);
    }
    emptyWay(due);
    asLawfulWithEachFault(due);
    asLawfulWithTheFirstOfManyFaults(due);
    thenThereIsNone(due);
    aWayAgainAfterAFault(due);
    theCubeStays(due);
    twiceTheSame(due);
    isNoTurn(due);
    due.end();
  }

  /** The known numbers of states; for the last, that all lawful cubes of its kind are met. */
  private static void countStates(ModelWay model, Due due) {
    int[] states = {2048, 2187 * 495, 420 * 70, 96 * 24 * 24 * 24 / 2};
    due.by("'each of the fewest turns'");
    for (int stage = 0; stage < 4; stage++) {
      due.is("states of stage " + stage, model.distances(stage).order.size(), states[stage]);
      due.is("longest of stage " + stage, model.distances(stage).longest(), LONGEST[stage]);
    }
  }

  private static void mixedCubes(ModelWay model, Due due) {
    due.by("'THE WAY HOME is found', mixed cubes");
    for (int round = 0; round < 500; round++) {
      ModelCube mixed = new ModelCube();
      mixed.mix(RANDOM, round % 5 == 0 ? RANDOM.nextInt(8) : 60);
      compare(model, mixed, due);
    }
  }

  private static void farthestCubes(ModelWay model, int stage, Due due) {
    due.by("'each of the fewest turns', the most that stage " + (stage + 1) + " can need");
    List<Long> order = model.distances(stage).order;
    int count = Math.min(10, order.size());
    for (int i = 1; i <= count; i++) {
      compare(model, model.cubeOf(stage, order.get(order.size() - i)), due);
      boolean longest = model.distances(stage).of(order.get(order.size() - i)) == LONGEST[stage];
      due.is("whether stage(" + (stage + 1) + ") is the most",
          cube.stage(stage + 1) == LONGEST[stage] ? 1 : 0, longest ? 1 : 0);
    }
  }

  private static void cubesOfEachLength(ModelWay model, int stage, Due due) {
    due.by("'each of the fewest turns', every number of stage " + (stage + 1));
    List<Long> order = model.distances(stage).order;
    int longest = model.distances(stage).longest();
    int[] met = new int[longest + 1];
    int step = Math.max(1, order.size() / 5000);
    for (int i = 0; i < order.size(); i += i < 200 ? 1 : step) {
      int length = model.distances(stage).of(order.get(i));
      if (met[length] < 12) {
        met[length]++;
        compare(model, model.cubeOf(stage, order.get(i)), due);
      }
    }
  }

  private static void compare(ModelWay model, ModelCube start, Due due) {
    if (comparisons % COMPARISONS_OF_ONE_OBJECT == 0) {
      cube = new StageCube();
    }
    comparisons++;
    start.setUp(cube, due);
    int total = cube.solve();
    start.compare("the cube after solve()", cube, due);
    ModelCube walker = start.copy();
    int met = 0;
    for (int stage = 0; stage < 4; stage++) {
      List<Integer> way = model.walk(stage, walker);
      due.is("stage(" + (stage + 1) + ")", cube.stage(stage + 1), way.size());
      for (int turn : way) {
        due.is("step(" + met + ")", cube.step(met), turn);
        met++;
      }
    }
    due.is("the model is home", walker.isHome() ? 1 : 0, 1);
    due.is("solve()", total, met);
    due.is("step() after the last", cube.step(met), StageCube.BAD);
    for (int i = 0; i < total; i++) {
      cube.turn(cube.step(i));
    }
    due.is("isHome() at the end of the way", cube.isHome(), 1);
  }

  private static void emptyWay(Due due) {
    due.by("'how many turns it has', none");
    StageCube home = new StageCube();
    due.is("solve() of HOME", home.solve(), 0);
    due.is("step(0) of HOME", home.step(0), StageCube.BAD);
  }

  private static void asLawfulWithEachFault(Due due) {
    due.by("'as lawful() when that is not 1'");
    for (Fault fault : Fault.values()) {
      StageCube faulty = new StageCube();
      fault.put(faulty);
      due.is("solve() with " + fault, faulty.solve(), fault.answer);
    }
  }

  private static void asLawfulWithTheFirstOfManyFaults(Due due) {
    due.by("'as lawful() when that is not 1', the first of many");
    Fault[] all = Fault.values();
    for (int first = 0; first < all.length; first++) {
      StageCube faulty = new StageCube();
      for (int i = first; i < all.length; i++) {
        all[i].put(faulty);
      }
      due.is("solve() with " + all[first] + " and the next", faulty.solve(), all[first].answer);
    }
  }

  /** An older way does not outlive a solve() that finds none. */
  private static void thenThereIsNone(Due due) {
    due.by("'(then there is none)'");
    for (Fault fault : Fault.values()) {
      StageCube faulty = new StageCube();
      faulty.turn(12);
      faulty.turn(0);
      faulty.turn(15);
      due.is("solve() of a lawful cube", faulty.solve(), 23);
      faulty.home();
      fault.put(faulty);
      due.is("solve() with " + fault, faulty.solve(), fault.answer);
      for (int stage = 1; stage <= 4; stage++) {
        due.is("stage(" + stage + ") after " + fault, faulty.stage(stage), 0);
      }
      for (int i = 0; i < 23; i++) {
        due.is("step(" + i + ") after " + fault, faulty.step(i), StageCube.BAD);
      }
    }
  }

  private static void aWayAgainAfterAFault(Due due) {
    due.by("'THE WAY HOME is found', after a fault");
    for (Fault fault : Fault.values()) {
      StageCube mended = new StageCube();
      fault.put(mended);
      mended.solve();
      mended.home();
      mended.turn(12);
      due.is("solve() after " + fault, mended.solve(), 2);
      due.is("stage(1) after " + fault, mended.stage(1), 1);
      due.is("step(0) after " + fault, mended.step(0), 12);
      due.is("step(1) after " + fault, mended.step(1), 13);
    }
  }

  private static void theCubeStays(Due due) {
    due.by("'The cube stays as it is'");
    StageCube lawful = new StageCube();
    ModelCube model = new ModelCube();
    model.mix(RANDOM, 40);
    model.setUp(lawful, due);
    lawful.solve();
    model.compare("after solve()", lawful, due);
    for (Fault fault : Fault.values()) {
      StageCube faulty = new StageCube();
      ModelCube faultyModel = new ModelCube();
      fault.put(faulty);
      fault.put(faultyModel);
      faulty.solve();
      faultyModel.compare("after solve() with " + fault, faulty, due);
    }
  }

  private static void twiceTheSame(Due due) {
    due.by("'The cube stays as it is', so the way is the same again");
    StageCube twice = new StageCube();
    ModelCube model = new ModelCube();
    model.mix(RANDOM, 40);
    model.setUp(twice, due);
    int turns = twice.solve();
    int[] steps = new int[turns];
    for (int i = 0; i < turns; i++) {
      steps[i] = twice.step(i);
    }
    due.is("solve() again", twice.solve(), turns);
    for (int i = 0; i < turns; i++) {
      due.is("step(" + i + ") again", twice.step(i), steps[i]);
    }
  }

  private static void isNoTurn(Due due) {
    due.by("'how many turns were done', the way's are not");
    StageCube solved = new StageCube();
    solved.turn(12);
    solved.turn(0);
    solved.turn(15);
    solved.solve();
    due.is("home()", solved.home(), 3);
  }
}
