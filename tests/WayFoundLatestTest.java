/**
 * Promises 9 to 12 together: solve() alone finds a way, or that there is none. 'The way found
 * latest' is the same before and after every other call, whatever the cube has become.
 */
public final class WayFoundLatestTest {
  private static final String[] OTHER_CALLS = {
    "corner(0, 1, 1)", "corner(8, 0, 0)", "edge(0, 1, 1)", "edge(12, 0, 0)", "at(0, 0)",
    "at(2, 0)", "lawful()", "turn(13)", "turn(18)", "home()", "isHome()", "stage(1)", "stage(5)",
    "step(0)", "step(-1)", "flips()"
  };
  private static final int[] LENGTHS = {0, 0, 1, 1};
  private static final int[] STEPS = {0, 1};
  private static final int[] NO_LENGTHS = {0, 0, 0, 0};
  private static final int[] NO_STEPS = {};

  public static void main(String[] args) {
    Due due = new Due();
    staysOverEachOtherCall(due);
    staysOverEachOtherCallWithAFault(due);
    staysOverAllOtherCalls(due);
    noOtherCallFindsAWay(due);
    noOtherCallBringsAWayBack(due);
    aFaultAloneDoesNotEndTheWay(due);
    flipsFindsNoWay(due);
    due.end();
  }

  private static void staysOverEachOtherCall(Due due) {
    due.by("'of the way found latest'");
    for (int call = 0; call < OTHER_CALLS.length; call++) {
      StageCube cube = withAWay(due);
      make(call, cube);
      compare("after " + OTHER_CALLS[call], cube, due, LENGTHS, STEPS);
    }
  }

  private static void staysOverEachOtherCallWithAFault(Due due) {
    due.by("'of the way found latest', of a cube that is not lawful now");
    for (Fault fault : Fault.values()) {
      for (int call = 0; call < OTHER_CALLS.length; call++) {
        StageCube cube = withAWay(due);
        cube.home();
        fault.put(cube);
        make(call, cube);
        compare("after " + OTHER_CALLS[call] + " with " + fault, cube, due, LENGTHS, STEPS);
      }
    }
  }

  private static void staysOverAllOtherCalls(Due due) {
    due.by("'of the way found latest', long ago");
    StageCube cube = withAWay(due);
    for (int round = 0; round < 30; round++) {
      for (int call = 0; call < OTHER_CALLS.length; call++) {
        make(call, cube);
      }
    }
    compare("after all other calls", cube, due, LENGTHS, STEPS);
  }

  private static void noOtherCallFindsAWay(Due due) {
    due.by("'(0 without a way)', 'BAD when there is none'");
    for (int call = 0; call < OTHER_CALLS.length; call++) {
      StageCube cube = new StageCube();
      cube.turn(0);
      make(call, cube);
      compare("after " + OTHER_CALLS[call], cube, due, NO_LENGTHS, NO_STEPS);
    }
  }

  private static void noOtherCallBringsAWayBack(Due due) {
    due.by("'as lawful() when that is not 1 (then there is none)'");
    for (Fault fault : Fault.values()) {
      for (int call = 0; call < OTHER_CALLS.length; call++) {
        StageCube cube = withAWay(due);
        cube.home();
        fault.put(cube);
        due.is("solve() with " + fault, cube.solve(), fault.answer);
        cube.home();
        cube.turn(0);
        make(call, cube);
        compare("after " + fault + " and " + OTHER_CALLS[call], cube, due, NO_LENGTHS, NO_STEPS);
      }
    }
  }

  /** There is none when solve() answers so, and not already when the cube is not lawful. */
  private static void aFaultAloneDoesNotEndTheWay(Due due) {
    due.by("'as lawful() when that is not 1 (then there is none)', and not before");
    for (Fault fault : Fault.values()) {
      StageCube cube = withAWay(due);
      cube.home();
      fault.put(cube);
      compare("with " + fault, cube, due, LENGTHS, STEPS);
      due.is("solve() with " + fault, cube.solve(), fault.answer);
      compare("after solve() with " + fault, cube, due, NO_LENGTHS, NO_STEPS);
    }
  }

  private static void flipsFindsNoWay(Due due) {
    due.by("'How many turns stage 1 of the cube as it is would have'");
    StageCube cube = new StageCube();
    cube.turn(12);
    due.is("flips()", cube.flips(), 1);
    compare("after flips() alone", cube, due, NO_LENGTHS, NO_STEPS);
    cube.home();
    cube.turn(0);
    due.is("solve()", cube.solve(), 2);
    cube.home();
    cube.turn(12);
    due.is("flips() of another cube", cube.flips(), 1);
    compare("after flips() of another cube", cube, due, LENGTHS, STEPS);
  }

  private static StageCube withAWay(Due due) {
    StageCube cube = new StageCube();
    cube.turn(0);
    due.is("solve() after turn 0", cube.solve(), 2);
    return cube;
  }

  private static void make(int call, StageCube cube) {
    switch (call) {
      case 0: cube.corner(0, 1, 1); break;
      case 1: cube.corner(8, 0, 0); break;
      case 2: cube.edge(0, 1, 1); break;
      case 3: cube.edge(12, 0, 0); break;
      case 4: cube.at(0, 0); break;
      case 5: cube.at(2, 0); break;
      case 6: cube.lawful(); break;
      case 7: cube.turn(13); break;
      case 8: cube.turn(18); break;
      case 9: cube.home(); break;
      case 10: cube.isHome(); break;
      case 11: cube.stage(1); break;
      case 12: cube.stage(5); break;
      case 13: cube.step(0); break;
      case 14: cube.step(-1); break;
      default: cube.flips(); break;
    }
  }

  private static void compare(
      String when, StageCube cube, Due due, int[] lengths, int[] steps) {
    for (int i = 0; i < 4; i++) {
      due.is("stage(" + (i + 1) + ") " + when, cube.stage(i + 1), lengths[i]);
    }
    for (int i = 0; i < 3; i++) {
      due.is("step(" + i + ") " + when, cube.step(i), i < steps.length ? steps[i] : StageCube.BAD);
    }
  }
}
