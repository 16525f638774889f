import java.util.Random;

/** 'What it is': an object is used for at most 512 calls after it has been made. */
public final class CallsTest {
  private static final int CALLS = 512;

  public static void main(String[] args) {
    Due due = new Due();
    due.by("'at most 512 calls'");
    lastCallCountsAllTurns(due);
    lastCallAfterRefusedOnes(due);
    lastCallFindsAWay(due);
    everyCallFindsAWay(due);
    callsBeyondEnd(due);
    due.end();
  }

  private static void lastCallCountsAllTurns(Due due) {
    StageCube cube = new StageCube();
    for (int call = 1; call < CALLS; call++) {
      due.is("turn as call " + call, cube.turn(call % 18), 1);
    }
    due.is("home() as the 512th call", cube.home(), CALLS - 1);
  }

  private static void lastCallAfterRefusedOnes(Due due) {
    StageCube cube = new StageCube();
    for (int call = 1; call < CALLS; call++) {
      due.is("turn(18) as call " + call, cube.turn(18), StageCube.BAD);
    }
    due.is("isHome() as the 512th call", cube.isHome(), 1);
  }

  private static void lastCallFindsAWay(Due due) {
    StageCube cube = new StageCube();
    for (int call = 1; call <= CALLS - 5; call++) {
      cube.turn(call % 18);
    }
    cube.home();
    cube.turn(12);
    cube.turn(0);
    cube.turn(15);
    due.is("solve() as the 512th call", cube.solve(), 23);
  }

  /** The way is found 256 times, each time of another cube. */
  private static void everyCallFindsAWay(Due due) {
    StageCube cube = new StageCube();
    Random random = new Random(512);
    for (int call = 0; call < CALLS; call += 2) {
      due.is("turn as call " + (call + 1), cube.turn(random.nextInt(18)), 1);
      int turns = cube.solve();
      due.is("solve() as call " + (call + 2), turns >= 0 && turns <= 45 ? 1 : 0, 1);
    }
  }

  /** What later calls answer is free, but they end and throw nothing. */
  private static void callsBeyondEnd(Due due) {
    StageCube cube = new StageCube();
    Random random = new Random(513);
    try {
      for (int call = 0; call < 3 * CALLS; call++) {
        anyCall(cube, random);
      }
    } catch (RuntimeException thrown) {
      due.is("a call beyond the 512th, that threw " + thrown, 0, 1);
    }
  }

  private static void anyCall(StageCube cube, Random random) {
    switch (random.nextInt(11)) {
      case 0:
        cube.corner(random.nextInt(10) - 1, random.nextInt(10) - 1, random.nextInt(5) - 1);
        break;
      case 1:
        cube.edge(random.nextInt(14) - 1, random.nextInt(14) - 1, random.nextInt(4) - 1);
        break;
      case 2:
        cube.at(random.nextInt(4) - 1, random.nextInt(14) - 1);
        break;
      case 3:
        cube.lawful();
        break;
      case 4:
        cube.home();
        break;
      case 5:
        cube.isHome();
        break;
      case 6:
        cube.solve();
        break;
      case 7:
        cube.stage(random.nextInt(7) - 1);
        break;
      case 8:
        cube.step(random.nextInt(64) - 2);
        break;
      case 9:
        cube.flips();
        break;
      default:
        cube.turn(random.nextInt(20) - 1);
        break;
    }
  }
}
