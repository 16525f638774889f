import java.util.Random;

/** Promise 5: lawful answers 1, or the first thing that is wrong. */
public final class Promise05LawfulTest {
  public static void main(String[] args) {
    Due due = new Due();
    everyMixOfFaults(due);
    everyCornerAndEdgeMissing(due);
    twistsAndFlips(due);
    swaps(due);
    turnsStayLawful(due);
    due.end();
  }

  /** Each of the five faults is there or not; the first one is told. */
  private static void everyMixOfFaults(Due due) {
    for (int faults = 0; faults < 32; faults++) {
      StageCube cube = new StageCube();
      int want = 1;
      if ((faults & 16) != 0) {
        cube.corner(0, 1, 0);
        cube.corner(1, 0, 0);
        want = StageCube.ODD;
      }
      if ((faults & 8) != 0) {
        cube.edge(5, 5, 1);
        want = StageCube.FLIPPED;
      }
      if ((faults & 4) != 0) {
        cube.corner(4, 4, 1);
        want = StageCube.TWISTED;
      }
      if ((faults & 2) != 0) {
        cube.edge(11, 0, 0);
        want = StageCube.NO_EDGES;
      }
      if ((faults & 1) != 0) {
        cube.corner(7, 2, 0);
        want = StageCube.NO_CORNERS;
      }
      due.is("lawful() with faults " + faults, cube.lawful(), want);
      due.is("solve() with faults " + faults, cube.solve() < 0 ? 1 : 0, want == 1 ? 0 : 1);
    }
  }

  private static void everyCornerAndEdgeMissing(Due due) {
    for (int i = 0; i < 8; i++) {
      StageCube cube = new StageCube();
      cube.corner(i, (i + 3) % 8, 0);
      due.is("lawful() without corner " + i, cube.lawful(), StageCube.NO_CORNERS);
    }
    for (int i = 0; i < 12; i++) {
      StageCube cube = new StageCube();
      cube.edge(i, (i + 5) % 12, 0);
      due.is("lawful() without edge " + i, cube.lawful(), StageCube.NO_EDGES);
    }
  }

  private static void twistsAndFlips(Due due) {
    Random random = new Random(5);
    for (int round = 0; round < 300; round++) {
      StageCube cube = new StageCube();
      int sum = 0;
      for (int i = 0; i < 8; i++) {
        int twist = random.nextInt(3);
        sum += twist;
        cube.corner(i, i, twist);
      }
      due.is("lawful() with twists " + sum, cube.lawful(), sum % 3 == 0 ? 1 : StageCube.TWISTED);
      cube.home();
      sum = 0;
      for (int i = 0; i < 12; i++) {
        int flip = random.nextInt(2);
        sum += flip;
        cube.edge(i, i, flip);
      }
      due.is("lawful() with flips " + sum, cube.lawful(), sum % 2 == 0 ? 1 : StageCube.FLIPPED);
    }
  }

  private static void swaps(Due due) {
    Random random = new Random(55);
    for (int round = 0; round < 300; round++) {
      ModelCube model = new ModelCube();
      shuffle(model.corner, random);
      shuffle(model.edge, random);
      StageCube cube = new StageCube();
      model.setUp(cube, due);
      boolean even = ModelCube.oddSwaps(model.corner) == ModelCube.oddSwaps(model.edge);
      due.is("lawful() after swaps", cube.lawful(), even ? 1 : StageCube.ODD);
      model.compare("after lawful()", cube, due);
    }
  }

  private static void shuffle(int[] pieces, Random random) {
    for (int i = pieces.length - 1; i > 0; i--) {
      int j = random.nextInt(i + 1);
      int kept = pieces[i];
      pieces[i] = pieces[j];
      pieces[j] = kept;
    }
  }

  private static void turnsStayLawful(Due due) {
    for (int turn = 0; turn < 18; turn++) {
      StageCube cube = new StageCube();
      cube.turn(turn);
      due.is("lawful() after turn " + turn, cube.lawful(), 1);
      cube.corner(0, 0, 0);
      cube.corner(1, 0, 0);
      cube.turn(turn);
      due.is("lawful() without a corner, turned", cube.lawful(), StageCube.NO_CORNERS);
    }
  }
}
