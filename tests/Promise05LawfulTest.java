import java.util.Random;

/** Promise 5: lawful answers 1, or the first thing that is wrong. */
public final class Promise05LawfulTest {
  public static void main(String[] args) {
    Due due = new Due();
    eachFaultAlone(due);
    firstOfEveryMixOfFaults(due);
    everyCornerAndEdgeMissing(due);
    twistsAndFlips(due);
    swaps(due);
    missingPiecesComeFirst(due);
    mendedStepByStep(due);
    changesNothing(due);
    turnsStayLawful(due);
    due.end();
  }

  private static void eachFaultAlone(Due due) {
    due.by("'else NO_CORNERS (one is not there), NO_EDGES, TWISTED, FLIPPED, ODD'");
    for (Fault fault : Fault.values()) {
      StageCube cube = new StageCube();
      due.is("lawful() before " + fault, cube.lawful(), 1);
      fault.put(cube);
      due.is("lawful() with " + fault, cube.lawful(), fault.answer);
    }
  }

  /** Each of the five faults is there or not; the first one is told. */
  private static void firstOfEveryMixOfFaults(Due due) {
    due.by("'the first of these'");
    Fault[] all = Fault.values();
    for (int faults = 0; faults < 32; faults++) {
      StageCube cube = new StageCube();
      int want = 1;
      for (int i = 4; i >= 0; i--) {
        if ((faults >> i & 1) != 0) {
          all[i].put(cube);
          want = all[i].answer;
        }
      }
      due.is("lawful() with faults " + faults, cube.lawful(), want);
    }
  }

  /** With a corner or an edge gone the rest is not looked at, however wrong it is. */
  private static void missingPiecesComeFirst(Due due) {
    due.by("'the first of these', all wrong");
    StageCube cube = new StageCube();
    for (int i = 0; i < 8; i++) {
      cube.corner(i, 7, 2);
    }
    for (int i = 0; i < 12; i++) {
      cube.edge(i, 11, i == 0 ? 0 : 1);
    }
    due.is("lawful() with corners 7 and edges 11 alone", cube.lawful(), StageCube.NO_CORNERS);
    for (int i = 0; i < 8; i++) {
      cube.corner(i, i ^ 1, 2);
    }
    due.is("lawful() with edges 11 alone", cube.lawful(), StageCube.NO_EDGES);
  }

  private static void mendedStepByStep(Due due) {
    due.by("'the first of these', one mended after the other");
    StageCube cube = new StageCube();
    for (Fault fault : new Fault[] {Fault.ODD, Fault.FLIPPED, Fault.TWISTED}) {
      fault.put(cube);
    }
    cube.edge(11, 0, 0);
    cube.corner(7, 2, 0);
    due.is("lawful()", cube.lawful(), StageCube.NO_CORNERS);
    cube.corner(7, 7, 0);
    due.is("lawful()", cube.lawful(), StageCube.NO_EDGES);
    cube.edge(11, 11, 0);
    due.is("lawful()", cube.lawful(), StageCube.TWISTED);
    cube.corner(4, 4, 0);
    due.is("lawful()", cube.lawful(), StageCube.FLIPPED);
    cube.edge(5, 5, 0);
    due.is("lawful()", cube.lawful(), StageCube.ODD);
    cube.corner(0, 0, 0);
    cube.corner(1, 1, 0);
    due.is("lawful()", cube.lawful(), 1);
  }

  private static void changesNothing(Due due) {
    due.by("'`int lawful()`', and the cube stays");
    for (Fault fault : Fault.values()) {
      StageCube cube = new StageCube();
      ModelCube model = new ModelCube();
      fault.put(cube);
      fault.put(model);
      cube.lawful();
      model.compare("after lawful() with " + fault, cube, due);
    }
  }

  private static void everyCornerAndEdgeMissing(Due due) {
    due.by("'NO_CORNERS (one is not there), NO_EDGES'");
    for (int i = 0; i < 8; i++) {
      StageCube cube = new StageCube();
      cube.corner(i, (i + 3) % 8, 0);
      due.is("lawful() without corner " + i, cube.lawful(), StageCube.NO_CORNERS);
    }
    for (int i = 0; i < 12; i++) {
      StageCube cube = new StageCube();
      cube.edge(i, (i + 5) % 12, 0);
      due.is("lawful() without edge " + i, cube.lawful(), StageCube.NO_EDGES);
    }
  }

  private static void twistsAndFlips(Due due) {
    due.by("'TWISTED, FLIPPED'");
    Random random = new Random(5);
    for (int round = 0; round < 300; round++) {
      StageCube cube = new StageCube();
      int sum = 0;
      for (int i = 0; i < 8; i++) {
        int twist = random.nextInt(3);
        sum += twist;
        cube.corner(i, i, twist);
      }
      due.is("lawful() with twists " + sum, cube.lawful(), sum % 3 == 0 ? 1 : StageCube.TWISTED);
      cube.home();
      sum = 0;
      for (int i = 0; i < 12; i++) {
        int flip = random.nextInt(2);
        sum += flip;
        cube.edge(i, i, flip);
      }
      due.is("lawful() with flips " + sum, cube.lawful(), sum % 2 == 0 ? 1 : StageCube.FLIPPED);
    }
  }

  private static void swaps(Due due) {
    due.by("'ODD'");
    Random random = new Random(55);
    for (int round = 0; round < 300; round++) {
      ModelCube model = new ModelCube();
      shuffle(model.corner, random);
      shuffle(model.edge, random);
      StageCube cube = new StageCube();
      model.setUp(cube, due);
      boolean even = ModelCube.oddSwaps(model.corner) == ModelCube.oddSwaps(model.edge);
      due.is("lawful() after swaps", cube.lawful(), even ? 1 : StageCube.ODD);
      model.compare("after lawful()", cube, due);
    }
  }

  private static void shuffle(int[] pieces, Random random) {
    for (int i = pieces.length - 1; i > 0; i--) {
      int j = random.nextInt(i + 1);
      int kept = pieces[i];
      pieces[i] = pieces[j];
      pieces[j] = kept;
    }
  }

  private static void turnsStayLawful(Due due) {
    due.by("'1 when the cube is lawful', turned");
    for (int turn = 0; turn < 18; turn++) {
      StageCube cube = new StageCube();
      cube.turn(turn);
      due.is("lawful() after turn " + turn, cube.lawful(), 1);
      cube.corner(0, 0, 0);
      cube.corner(1, 0, 0);
      cube.turn(turn);
      due.is("lawful() without a corner, turned", cube.lawful(), StageCube.NO_CORNERS);
    }
  }
}
