import java.util.ArrayList;
import java.util.Arrays;
import java.util.List;

/**
 * The way home by the plainest means: for each stage the distance of every state there is, found
 * by spreading from the goal, and then always the first turn that comes nearer.
 */
final class ModelWay {
  /** The state of a cube as far as one stage looks at it, and a cube of a given state. */
  private interface View {
    long key(ModelCube cube);

    /** Some cube of that state; lawful but for its swaps. */
    ModelCube show(long key);
  }

  /** How many turns each state is from the goal. */
  static final class Distances {
    private final long[] keys;
    private final byte[] turns;
    final List<Long> order = new ArrayList<>();

    Distances(int bits) {
      keys = new long[1 << bits];
      turns = new byte[1 << bits];
      Arrays.fill(keys, -1);
    }

    private int slot(long key) {
      int slot = (int) ((key * 0x9E3779B97F4A7C15L) >>> 32) & keys.length - 1;
      while (keys[slot] != -1 && keys[slot] != key) {
        slot = slot + 1 & keys.length - 1;
      }
      return slot;
    }

    int of(long key) {
      int slot = slot(key);
      return keys[slot] == key ? turns[slot] : -1;
    }

    private boolean add(long key, int distance) {
      int slot = slot(key);
      if (keys[slot] == key) {
        return false;
      }
      keys[slot] = key;
      turns[slot] = (byte) distance;
      order.add(key);
      return true;
    }

    int longest() {
      return of(order.get(order.size() - 1));
    }
  }

  private final View[] views = {new Flips(), new TwistsAndMiddle(), new Halves(), new Whole()};
  private final Distances[] distances = new Distances[4];

  static boolean allowed(int stage, int turn) {
    int face = turn / 3;
    boolean half = turn % 3 == 1;
    switch (stage) {
      case 0:
        return true;
      case 1:
        return half || face < 4;
      case 2:
        return half || face < 2;
      default:
        return half;
    }
  }

  /** Found when first asked for: not every test needs all stages. */
  Distances distances(int stage) {
    if (distances[stage] == null) {
      distances[stage] = spread(stage);
    }
    return distances[stage];
  }

  /** By looking whether the very cube is among all those that halves make from HOME. */
  boolean canComeHomeByHalves(ModelCube cube) {
    long key = views[3].key(cube);
    return distances(3).of(key) >= 0 && views[3].show(key).equalTo(cube);
  }

  /** A lawful cube of that state of the stage, done with the stages before. */
  ModelCube cubeOf(int stage, long key) {
    ModelCube cube = views[stage].show(key);
    if (stage < 2) {
      cube.mendSwaps();
    } else if (ModelCube.oddSwaps(cube.corner) != ModelCube.oddSwaps(cube.edge)) {
      int kept = cube.edge[8];
      cube.edge[8] = cube.edge[9];
      cube.edge[9] = kept;
    }
    return cube;
  }

  private Distances spread(int stage) {
    View view = views[stage];
    Distances known = new Distances(stage == 0 || stage == 2 ? 16 : 21);
    known.add(view.key(new ModelCube()), 0);
    for (int i = 0; i < known.order.size(); i++) {
      long key = known.order.get(i);
      int next = known.of(key) + 1;
      ModelCube start = view.show(key);
      for (int turn = 0; turn < 18; turn++) {
        if (allowed(stage, turn)) {
          ModelCube cube = start.copy();
          cube.turn(turn);
          known.add(view.key(cube), next);
        }
      }
    }
    return known;
  }

  /** The turns of one stage; the cube goes along. */
  List<Integer> walk(int stage, ModelCube cube) {
    List<Integer> way = new ArrayList<>();
    int left = distances(stage).of(views[stage].key(cube));
    while (left > 0) {
      left--;
      way.add(firstTurnTo(stage, left, cube));
    }
    return way;
  }

  private int firstTurnTo(int stage, int left, ModelCube cube) {
    for (int turn = 0; turn < 18; turn++) {
      if (allowed(stage, turn)) {
        ModelCube next = cube.copy();
        next.turn(turn);
        if (distances(stage).of(views[stage].key(next)) == left) {
          cube.copyFrom(next);
          return turn;
        }
      }
    }
    throw new IllegalStateException("no turn comes nearer");
  }

  /** Stage 1: all flips. */
  private static final class Flips implements View {
    @Override
    public long key(ModelCube cube) {
      long key = 0;
      for (int i = 0; i < 12; i++) {
        key = 2 * key + cube.flip[i];
      }
      return key;
    }

    @Override
    public ModelCube show(long key) {
      ModelCube cube = new ModelCube();
      for (int i = 0; i < 12; i++) {
        cube.flip[i] = (int) (key >> 11 - i & 1);
      }
      return cube;
    }
  }

  /** Stage 2: all twists, and where the edges 8 .. 11 are. */
  private static final class TwistsAndMiddle implements View {
    @Override
    public long key(ModelCube cube) {
      long key = 0;
      for (int i = 0; i < 8; i++) {
        key = 4 * key + cube.twist[i];
      }
      for (int i = 0; i < 12; i++) {
        key = 2 * key + (cube.edge[i] >= 8 ? 1 : 0);
      }
      return key;
    }

    @Override
    public ModelCube show(long key) {
      ModelCube cube = new ModelCube();
      int middle = 8;
      int other = 0;
      for (int i = 0; i < 12; i++) {
        cube.edge[i] = (key >> 11 - i & 1) == 1 ? middle++ : other++;
      }
      for (int i = 0; i < 8; i++) {
        cube.twist[i] = (int) (key >> 12 + 2 * (7 - i) & 3);
      }
      return cube;
    }
  }

  /**
   * Stage 3: two orders of the corners are one state when halves, done before, make one from the
   * other; of the edges it counts which are 0 .. 3.
   */
  private static final class Halves implements View {
    private final List<int[]> byHalves = new ArrayList<>();

    Halves() {
      ModelCube home = new ModelCube();
      byHalves.add(home.corner.clone());
      for (int i = 0; i < byHalves.size(); i++) {
        for (int face = 0; face < 6; face++) {
          ModelCube cube = new ModelCube();
          System.arraycopy(byHalves.get(i), 0, cube.corner, 0, 8);
          cube.turn(3 * face + 1);
          if (byHalves.stream().noneMatch(known -> Arrays.equals(known, cube.corner))) {
            byHalves.add(cube.corner.clone());
          }
        }
      }
      if (byHalves.size() != 96) {
        throw new IllegalStateException(byHalves.size() + " orders of corners by halves");
      }
    }

    @Override
    public long key(ModelCube cube) {
      long least = Long.MAX_VALUE;
      for (int[] renamed : byHalves) {
        long corners = 0;
        for (int i = 0; i < 8; i++) {
          corners = 8 * corners + renamed[cube.corner[i]];
        }
        least = Math.min(least, corners);
      }
      for (int i = 0; i < 8; i++) {
        least = 2 * least + (cube.edge[i] < 4 ? 1 : 0);
      }
      return least;
    }

    @Override
    public ModelCube show(long key) {
      ModelCube cube = new ModelCube();
      int low = 0;
      int high = 4;
      for (int i = 0; i < 8; i++) {
        cube.edge[i] = (key >> 7 - i & 1) == 1 ? low++ : high++;
        cube.corner[i] = (int) (key >> 8 + 3 * (7 - i) & 7);
      }
      return cube;
    }
  }

  /** Stage 4: every piece. */
  private static final class Whole implements View {
    @Override
    public long key(ModelCube cube) {
      long key = 0;
      for (int i = 0; i < 8; i++) {
        key = 8 * key + cube.corner[i];
      }
      for (int i = 0; i < 12; i++) {
        key = 4 * key + cube.edge[i] % 4;
      }
      return key;
    }

    @Override
    public ModelCube show(long key) {
      ModelCube cube = new ModelCube();
      for (int i = 0; i < 12; i++) {
        cube.edge[i] = i / 4 * 4 + (int) (key >> 2 * (11 - i) & 3);
      }
      for (int i = 0; i < 8; i++) {
        cube.corner[i] = (int) (key >> 24 + 3 * (7 - i) & 7);
      }
      return cube;
    }
  }
}
