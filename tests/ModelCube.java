import java.util.Arrays;
import java.util.Random;

/**
 * The cube as the document's Terms tell it, from the coordinates of its positions and not from
 * tables, so that it shares nothing with the program.
 */
final class ModelCube {
  // The rounds of the document; up and down tell (x, y), left and right (y, z), front and back
  // (x, z).
  private static final String[] ROUNDS = {
    "00 01 11 10", "00 10 11 01", "01 00 10 11", "01 11 10 00", "01 11 10 00", "11 01 00 10"
  };

  final int[] corner = new int[8];
  final int[] twist = new int[8];
  final int[] edge = new int[12];
  final int[] flip = new int[12];

  ModelCube() {
    for (int i = 0; i < 8; i++) {
      corner[i] = i;
    }
    for (int i = 0; i < 12; i++) {
      edge[i] = i;
    }
  }

  ModelCube copy() {
    ModelCube copy = new ModelCube();
    copy.copyFrom(this);
    return copy;
  }

  void copyFrom(ModelCube other) {
    System.arraycopy(other.corner, 0, corner, 0, 8);
    System.arraycopy(other.twist, 0, twist, 0, 8);
    System.arraycopy(other.edge, 0, edge, 0, 12);
    System.arraycopy(other.flip, 0, flip, 0, 12);
  }

  private static final int[][] CORNER_ROUNDS = new int[6][4];
  private static final int[][] EDGE_ROUNDS = new int[6][4];

  static {
    for (int face = 0; face < 6; face++) {
      String[] places = ROUNDS[face].split(" ");
      for (int i = 0; i < 4; i++) {
        CORNER_ROUNDS[face][i] = cornerAt(face, places[i]);
      }
      for (int i = 0; i < 4; i++) {
        EDGE_ROUNDS[face][i] =
            edgeBetween(CORNER_ROUNDS[face][i], CORNER_ROUNDS[face][(i + 1) % 4]);
      }
    }
  }

  private static int cornerAt(int face, String place) {
    int a = place.charAt(0) - '0';
    int b = place.charAt(1) - '0';
    switch (face) {
      case 0:
        return corner(a, b, 1);
      case 1:
        return corner(a, b, 0);
      case 2:
        return corner(0, a, b);
      case 3:
        return corner(1, a, b);
      case 4:
        return corner(a, 0, b);
      default:
        return corner(a, 1, b);
    }
  }

  private static int corner(int x, int y, int z) {
    return 4 * z + 2 * y + x;
  }

  private static int edgeBetween(int one, int other) {
    int x = one % 2;
    int y = one / 2 % 2;
    int z = one / 4;
    if (x != other % 2) {
      return 2 * z + y;
    }
    if (y != other / 2 % 2) {
      return 4 + 2 * z + x;
    }
    return 8 + 2 * y + x;
  }

  void turn(int turn) {
    for (int i = 0; i <= turn % 3; i++) {
      quarter(turn / 3);
    }
  }

  private void quarter(int face) {
    ModelCube old = copy();
    for (int i = 0; i < 4; i++) {
      int from = CORNER_ROUNDS[face][i];
      int to = CORNER_ROUNDS[face][(i + 1) % 4];
      int more = face < 2 ? 0 : from / 4 == to / 4 ? 1 : 2;
      corner[to] = old.corner[from];
      twist[to] = (old.twist[from] + more) % 3;
      int edgeFrom = EDGE_ROUNDS[face][i];
      int edgeTo = EDGE_ROUNDS[face][(i + 1) % 4];
      edge[edgeTo] = old.edge[edgeFrom];
      flip[edgeTo] = face < 4 ? old.flip[edgeFrom] : 1 - old.flip[edgeFrom];
    }
  }

  void mix(Random random, int turns) {
    for (int i = 0; i < turns; i++) {
      turn(random.nextInt(18));
    }
  }

  /** Any pieces, lawful or not. */
  void scatter(Random random) {
    for (int i = 0; i < 8; i++) {
      corner[i] = random.nextInt(8);
      twist[i] = random.nextInt(3);
    }
    for (int i = 0; i < 12; i++) {
      edge[i] = random.nextInt(12);
      flip[i] = random.nextInt(2);
    }
  }

  /** Sets the program's cube to this one. */
  void setUp(StageCube cube, Due due) {
    for (int i = 0; i < 8; i++) {
      due.is("corner", cube.corner(i, corner[i], twist[i]), 1);
    }
    for (int i = 0; i < 12; i++) {
      due.is("edge", cube.edge(i, edge[i], flip[i]), 1);
    }
  }

  /** Asks the program's cube for all its pieces. */
  void compare(String when, StageCube cube, Due due) {
    for (int i = 0; i < 8; i++) {
      due.is(when + ": at(0, " + i + ")", cube.at(0, i), 3 * corner[i] + twist[i]);
    }
    for (int i = 0; i < 12; i++) {
      due.is(when + ": at(1, " + i + ")", cube.at(1, i), 2 * edge[i] + flip[i]);
    }
  }

  boolean isHome() {
    return equalTo(new ModelCube());
  }

  boolean equalTo(ModelCube other) {
    return Arrays.equals(corner, other.corner)
        && Arrays.equals(twist, other.twist)
        && Arrays.equals(edge, other.edge)
        && Arrays.equals(flip, other.flip);
  }

  /** Swaps two corners when that is needed to make the cube lawful. */
  void mendSwaps() {
    if (oddSwaps(corner) != oddSwaps(edge)) {
      int kept = corner[0];
      corner[0] = corner[1];
      corner[1] = kept;
    }
  }

  /** By undoing swaps one after the other. */
  static boolean oddSwaps(int[] pieces) {
    int[] rest = pieces.clone();
    int swaps = 0;
    for (int i = 0; i < rest.length; i++) {
      while (rest[i] != i) {
        int other = rest[i];
        rest[i] = rest[other];
        rest[other] = other;
        swaps++;
      }
    }
    return swaps % 2 == 1;
  }
}
