/**
 * A cube of three by three by three that can be set, turned and asked for a way home in four
 * stages. Each stage takes the fewest turns, and of such ways the first one.
 */
public final class StageCube {
  public static final int BAD = -1;
  public static final int NO_CORNERS = -2;
  public static final int NO_EDGES = -3;
  public static final int TWISTED = -4;
  public static final int FLIPPED = -5;
  public static final int ODD = -6;

  private static final int CORNERS = 8;
  private static final int EDGES = 12;
  private static final int TWISTS = 3;
  private static final int FLIPS = 2;
  private static final int FACES = 6;
  private static final int TURNS = 18;
  private static final int STAGES = 4;

  private final Cube cube;
  // A second cube that goes the way while it is looked for, so that the first one stays as it is.
  private final Cube walker;
  private final Stage[] stages;
  private final int[] lengths;
  private final int[] steps;
  private int stepCount;
  private int turnsSinceHome;

  public StageCube() {
    cube = new Cube();
    walker = new Cube();
    stages = new Stage[STAGES];
    lengths = new int[STAGES];
    steps = new int[STAGES * Stage.LONGEST];
    stepCount = 0;
    turnsSinceHome = 0;
  }

  public int corner(int position, int piece, int twist) {
    return cube.corners.put(position, piece, twist) ? 1 : BAD;
  }

  public int edge(int position, int piece, int flip) {
    return cube.edges.put(position, piece, flip) ? 1 : BAD;
  }

  public int at(int what, int position) {
    if (what == 0) {
      return cube.corners.describe(position);
    }
    if (what == 1) {
      return cube.edges.describe(position);
    }
    return BAD;
  }

  public int lawful() {
    if (!cube.corners.allThere()) {
      return NO_CORNERS;
    }
    if (!cube.edges.allThere()) {
      return NO_EDGES;
    }
    if (!cube.corners.marksCancel()) {
      return TWISTED;
    }
    if (!cube.edges.marksCancel()) {
      return FLIPPED;
    }
    return cube.corners.oddlySwapped() == cube.edges.oddlySwapped() ? 1 : ODD;
  }

  public int turn(int turn) {
    if (turn < 0 || turn >= TURNS) {
      return BAD;
    }
    cube.make(turn);
    turnsSinceHome++;
    return 1;
  }

  public int home() {
    int done = turnsSinceHome;
    cube.reset();
    turnsSinceHome = 0;
    return done;
  }

  public int isHome() {
    return cube.corners.atHome() && cube.edges.atHome() ? 1 : 0;
  }

  public int solve() {
    forgetWay();
    int verdict = lawful();
    if (verdict != 1) {
      return verdict;
    }
    walker.copyFrom(cube);
    for (int number = 0; number < STAGES; number++) {
      walkStage(number);
    }
    return stepCount;
  }

  public int stage(int stage) {
    return stage >= 1 && stage <= STAGES ? lengths[stage - 1] : BAD;
  }

  public int step(int i) {
    return i >= 0 && i < stepCount ? steps[i] : BAD;
  }

  public int flips() {
    int verdict = lawful();
    return verdict == 1 ? knownStage(0).find(cube) : verdict;
  }

  private void forgetWay() {
    stepCount = 0;
    for (int number = 0; number < STAGES; number++) {
      lengths[number] = 0;
    }
  }

  private void walkStage(int number) {
    Stage stage = knownStage(number);
    int length = stage.find(walker);
    lengths[number] = length;
    for (int i = 0; i < length; i++) {
      walker.make(stage.way[i]);
      steps[stepCount] = stage.way[i];
      stepCount++;
    }
  }

  // Stages are made when they are first needed: most objects never look for a way.
  private Stage knownStage(int number) {
    if (stages[number] == null) {
      stages[number] = newStage(number);
    }
    return stages[number];
  }

  // A longer reach makes the first search of a stage dearer and the others cheaper; these are
  // balanced for a few searches an object. 2035, 1219, 2508 and 9089 states are nearer than the
  // reach and go through the queue.
  private static Stage newStage(int number) {
    switch (number) {
      case 0:
        return new Stage(6, 7, 2048, new Feature[] {new Marks(false)});
      case 1:
        return new Stage(4, 5, 2048, new Feature[] {new Marks(true), new Places(2, 12)});
      case 2:
        return new Stage(2, 7, 4096, new Feature[] {new Pairings(), new Places(0, 8)});
      default:
        return new Stage(
            0,
            7,
            10240,
            new Feature[] {new CornerOrders(), new Orders(0), new Orders(1), new Orders(2)});
    }
  }

  /** The corners or the edges: which piece is at each position, and its mark (twist or flip). */
  private static final class Pieces {
    // Four positions a face; a quarter takes what is at each of them to the next one.
    private static final int[] CORNER_ROUND = {
      4, 6, 7, 5,
      0, 1, 3, 2,
      4, 0, 2, 6,
      5, 7, 3, 1,
      4, 5, 1, 0,
      7, 6, 2, 3
    };
    private static final int[] EDGE_ROUND = {
      6, 3, 7, 2,
      0, 5, 1, 4,
      8, 4, 10, 6,
      7, 11, 5, 9,
      2, 9, 0, 8,
      3, 10, 1, 11
    };
    // What is added to the mark of a piece that a quarter takes away from that place of the round.
    private static final int[] TWIST_GAIN = {
      0, 0, 0, 0,
      0, 0, 0, 0,
      2, 1, 2, 1,
      1, 2, 1, 2,
      1, 2, 1, 2,
      1, 2, 1, 2
    };
    private static final int[] FLIP_GAIN = {
      0, 0, 0, 0,
      0, 0, 0, 0,
      0, 0, 0, 0,
      0, 0, 0, 0,
      1, 1, 1, 1,
      1, 1, 1, 1
    };

    final int count;
    final int marks;
    final int[] piece;
    final int[] mark;
    private final int[] round;
    private final int[] gain;

    Pieces(boolean corners) {
      count = corners ? CORNERS : EDGES;
      marks = corners ? TWISTS : FLIPS;
      round = corners ? CORNER_ROUND : EDGE_ROUND;
      gain = corners ? TWIST_GAIN : FLIP_GAIN;
      piece = new int[count];
      mark = new int[count];
      reset();
    }

    void reset() {
      for (int i = 0; i < count; i++) {
        piece[i] = i;
        mark[i] = 0;
      }
    }

    void copyFrom(Pieces other) {
      for (int i = 0; i < count && i < other.count; i++) {
        piece[i] = other.piece[i];
        mark[i] = other.mark[i];
      }
    }

    boolean put(int position, int newPiece, int newMark) {
      if (!isNumber(position, count) || !isNumber(newPiece, count) || !isNumber(newMark, marks)) {
        return false;
      }
      piece[position] = newPiece;
      mark[position] = newMark;
      return true;
    }

    int describe(int position) {
      return isNumber(position, count) ? marks * piece[position] + mark[position] : BAD;
    }

    private static boolean isNumber(int value, int limit) {
      return value >= 0 && value < limit;
    }

    void quarter(int face) {
      int first = 4 * face;
      int last = first + 3;
      int lastPiece = piece[round[last]];
      int lastMark = mark[round[last]];
      for (int i = last; i > first; i--) {
        piece[round[i]] = piece[round[i - 1]];
        mark[round[i]] = (mark[round[i - 1]] + gain[i - 1]) % marks;
      }
      piece[round[first]] = lastPiece;
      mark[round[first]] = (lastMark + gain[last]) % marks;
    }

    boolean atHome() {
      for (int i = 0; i < count; i++) {
        if (piece[i] != i || mark[i] != 0) {
          return false;
        }
      }
      return true;
    }

    boolean allThere() {
      int seen = 0;
      for (int i = 0; i < count; i++) {
        seen |= 1 << piece[i];
      }
      return seen == (1 << count) - 1;
    }

    boolean marksCancel() {
      int sum = 0;
      for (int i = 0; i < count; i++) {
        sum += mark[i];
      }
      return sum % marks == 0;
    }

    // Each swap changes whether the number of pairs in the wrong order is odd.
    boolean oddlySwapped() {
      boolean odd = false;
      for (int i = 0; i < count; i++) {
        for (int j = i + 1; j < count; j++) {
          if (piece[i] > piece[j]) {
            odd = !odd;
          }
        }
      }
      return odd;
    }
  }

  /** A whole cube. */
  private static final class Cube {
    final Pieces corners;
    final Pieces edges;

    Cube() {
      corners = new Pieces(true);
      edges = new Pieces(false);
    }

    void reset() {
      corners.reset();
      edges.reset();
    }

    void copyFrom(Cube other) {
      corners.copyFrom(other.corners);
      edges.copyFrom(other.edges);
    }

    void make(int turn) {
      int face = turn / 3;
      int quarters = turn % 3 + 1;
      for (int i = 0; i < quarters; i++) {
        corners.quarter(face);
        edges.quarter(face);
      }
    }
  }

  /** Dense numbers for sets of four and for orders of four. The plainest one has number 0. */
  private static final class Numbering {
    static final int SETS_OF_8 = 70;
    static final int SETS_OF_12 = 495;
    static final int ORDERS = 24;

    // How many sets of k are in n things, at 5 n + k.
    private static final int[] CHOOSE = {
      1, 0, 0, 0, 0,
      1, 1, 0, 0, 0,
      1, 2, 1, 0, 0,
      1, 3, 3, 1, 0,
      1, 4, 6, 4, 1,
      1, 5, 10, 10, 5,
      1, 6, 15, 20, 15,
      1, 7, 21, 35, 35,
      1, 8, 28, 56, 70,
      1, 9, 36, 84, 126,
      1, 10, 45, 120, 210,
      1, 11, 55, 165, 330
    };

    static int ofSet(int set, int things) {
      int number = 0;
      int found = 0;
      for (int i = 0; i < things && found < 4; i++) {
        if ((set >> i & 1) != 0) {
          found++;
          number += CHOOSE[5 * i + found];
        }
      }
      return number;
    }

    static int toSet(int number, int things) {
      int set = 0;
      int rest = number;
      int missing = 4;
      for (int i = things - 1; i >= 0 && missing > 0; i--) {
        int below = CHOOSE[5 * i + missing];
        if (rest >= below) {
          rest -= below;
          missing--;
          set |= 1 << i;
        }
      }
      return set;
    }

    static int ofOrder(int a, int b, int c, int d) {
      return a * 6 + (b > a ? b - 1 : b) * 2 + (c > d ? 1 : 0);
    }

    static void toOrder(int number, int[] order) {
      int a = number / 6;
      int b = number / 2 % 3;
      if (b >= a) {
        b++;
      }
      int low = a != 0 && b != 0 ? 0 : a != 1 && b != 1 ? 1 : 2;
      int high = 6 - a - b - low;
      boolean rising = number % 2 == 0;
      order[0] = a;
      order[1] = b;
      order[2] = rising ? low : high;
      order[3] = rising ? high : low;
    }
  }

  /**
   * One thing that a stage must bring in order. What it looks like on a cube has a number below
   * size, and 0 when it is in order.
   */
  private abstract static class Feature {
    final boolean ofCorners;
    final int size;
    // By number and face: the number after the smallest turn that the stage has for the face.
    int[] next;

    Feature(boolean ofCorners, int size) {
      this.ofCorners = ofCorners;
      this.size = size;
    }

    abstract int read(Pieces pieces);

    abstract void show(int number, Pieces pieces);

    final int readFrom(Cube cube) {
      return read(ofCorners ? cube.corners : cube.edges);
    }

    final void learn(int facesWithQuarters) {
      Pieces pieces = new Pieces(ofCorners);
      next = new int[FACES * size];
      for (int number = 0; number < size; number++) {
        for (int face = 0; face < FACES; face++) {
          show(number, pieces);
          pieces.quarter(face);
          if (face >= facesWithQuarters) {
            pieces.quarter(face);
          }
          next[FACES * number + face] = read(pieces);
        }
      }
    }
  }

  /** All twists, or all flips. The last one follows from the others. */
  private static final class Marks extends Feature {
    Marks(boolean ofCorners) {
      super(ofCorners, ofCorners ? 2187 : 2048);
    }

    int read(Pieces pieces) {
      int number = 0;
      for (int i = 0; i < pieces.count - 1; i++) {
        number = number * pieces.marks + pieces.mark[i];
      }
      return number;
    }

    void show(int number, Pieces pieces) {
      int rest = number;
      int sum = 0;
      for (int i = pieces.count - 2; i >= 0; i--) {
        int mark = rest % pieces.marks;
        pieces.mark[i] = mark;
        sum += mark;
        rest /= pieces.marks;
      }
      pieces.mark[pieces.count - 1] = (pieces.marks - sum % pieces.marks) % pieces.marks;
    }
  }

  /**
   * Which of the first positions hold edges of one family: 0 .. 3, 4 .. 7 or 8 .. 11. Positions
   * are counted from the family's own ones on, so that 0 is home.
   */
  private static final class Places extends Feature {
    private final int family;
    private final int positions;

    Places(int family, int positions) {
      super(false, positions == EDGES ? Numbering.SETS_OF_12 : Numbering.SETS_OF_8);
      this.family = family;
      this.positions = positions;
    }

    int read(Pieces pieces) {
      int set = 0;
      for (int i = 0; i < positions; i++) {
        if (pieces.piece[position(i)] / 4 == family) {
          set |= 1 << i;
        }
      }
      return Numbering.ofSet(set, positions);
    }

    void show(int number, Pieces pieces) {
      int set = Numbering.toSet(number, positions);
      int stranger = 4 * ((family + 1) % 3);
      for (int i = 0; i < positions; i++) {
        pieces.piece[position(i)] = (set >> i & 1) != 0 ? 4 * family : stranger;
      }
    }

    private int position(int i) {
      return (4 * family + i) % positions;
    }
  }

  /**
   * What halves can't change of the corners. They leave the corners 0, 3, 5, 6 (the even ones)
   * among themselves, and the others. Two corners of one kind share a plane across x, y or z;
   * halves that make one such pairing of the even ones into another do the same to the odd ones,
   * so it stays which even and which odd pairing belong together.
   */
  private static final class Pairings extends Feature {
    static final int[] EVEN = {0, 3, 5, 6};
    private static final int[] POSITIONS = {0, 3, 5, 6, 1, 2, 4, 7};

    private final int[] evens;
    private final int[] odds;
    private final int[] order;

    Pairings() {
      super(true, Numbering.SETS_OF_8 * 6);
      evens = new int[CORNERS];
      odds = new int[CORNERS];
      order = new int[4];
    }

    int read(Pieces pieces) {
      int set = 0;
      int evenCount = 0;
      for (int i = 0; i < CORNERS; i++) {
        int piece = pieces.piece[POSITIONS[i]];
        if (Integer.bitCount(piece) % 2 == 0) {
          set |= 1 << i;
          evens[evenCount] = piece;
          evenCount++;
        } else {
          odds[i - evenCount] = piece;
        }
      }
      int belonging = Numbering.ofOrder(0, partner(1), partner(2), partner(3));
      return Numbering.ofSet(set, CORNERS) * 6 + belonging;
    }

    // Which even corner is paired with the first even one as this odd one with the first odd one.
    private int partner(int odd) {
      int apart = odds[0] ^ odds[odd];
      return (evens[0] ^ evens[1]) == apart ? 1 : (evens[0] ^ evens[2]) == apart ? 2 : 3;
    }

    void show(int number, Pieces pieces) {
      int set = Numbering.toSet(number / 6, CORNERS);
      Numbering.toOrder(number % 6, order);
      int evenCount = 0;
      for (int i = 0; i < CORNERS; i++) {
        if ((set >> i & 1) != 0) {
          pieces.piece[POSITIONS[i]] = EVEN[evenCount & 3];
          evenCount++;
        } else {
          pieces.piece[POSITIONS[i]] = EVEN[order[(i - evenCount) & 3]] ^ 1;
        }
      }
    }
  }

  /** The order of the corners when halves alone can bring them home. */
  private static final class CornerOrders extends Feature {
    private final int[] order;

    CornerOrders() {
      super(true, Numbering.ORDERS * 4);
      order = new int[4];
    }

    int read(Pieces pieces) {
      int[] piece = pieces.piece;
      int evens = Numbering.ofOrder(piece[0] >> 1, piece[3] >> 1, piece[5] >> 1, piece[6] >> 1);
      return evens * 4 + (piece[1] >> 1);
    }

    // Halves keep every two neighbours from left to right equally far apart (by exclusive or), so
    // the even corners and one odd one tell the rest.
    void show(int number, Pieces pieces) {
      Numbering.toOrder(number / 4, order);
      int apart = Pairings.EVEN[order[0]] ^ Pairings.EVEN[number % 4] ^ 1;
      for (int i = 0; i < 4; i++) {
        int position = Pairings.EVEN[i];
        int piece = Pairings.EVEN[order[i]];
        pieces.piece[position] = piece;
        pieces.piece[position ^ 1] = piece ^ apart;
      }
    }
  }

  /** The order of the four edges of a family at the family's own positions. */
  private static final class Orders extends Feature {
    private final int first;
    private final int[] order;

    Orders(int family) {
      super(false, Numbering.ORDERS);
      first = 4 * family;
      order = new int[4];
    }

    int read(Pieces pieces) {
      int[] piece = pieces.piece;
      return Numbering.ofOrder(
          piece[first] & 3, piece[first + 1] & 3, piece[first + 2] & 3, piece[first + 3] & 3);
    }

    void show(int number, Pieces pieces) {
      Numbering.toOrder(number, order);
      for (int i = 0; i < 4; i++) {
        pieces.piece[first + i] = first + order[i];
      }
    }
  }

  /**
   * One stage of the way home. Deepening search finds the way; it knows exactly how far from the
   * goal all states are that are at most reach turns away, and gives up early by that.
   */
  private static final class Stage {
    /** No stage needs more turns than the fourth one can. */
    static final int LONGEST = 15;

    private static final int NO_FACE = -1;

    final int[] way;
    private final int facesWithQuarters;
    private final int reach;
    private final int queueLength;
    private final Feature[] features;
    // For each depth of the search, the number of each feature.
    private final int[] numbers;
    // Four bits for each state: 1 more than its turns to the goal, or 0 when beyond the reach.
    private long[] near;

    /**
     * The faces below facesWithQuarters may make quarters; all may make halves. The queue must
     * have room for all states that are nearer to the goal than reach.
     */
    Stage(int facesWithQuarters, int reach, int queueLength, Feature[] features) {
      this.facesWithQuarters = facesWithQuarters;
      this.reach = reach;
      this.queueLength = queueLength;
      this.features = features;
      numbers = new int[(LONGEST + 1) * features.length];
      way = new int[LONGEST];
    }

    /** Puts the turns of this stage for the cube into way, and answers how many they are. */
    int find(Cube cube) {
      if (readStart(cube) == 0) {
        return 0;
      }
      if (near == null) {
        prepare();
        readStart(cube);
      }
      int known = turnsToGoal(stateAt(0));
      for (int bound = known; bound <= LONGEST; bound++) {
        if (dive(0, bound, NO_FACE)) {
          return bound;
        }
      }
      return 0;
    }

    private int readStart(Cube cube) {
      for (int i = 0; i < features.length; i++) {
        numbers[i] = features[i].readFrom(cube);
      }
      return stateAt(0);
    }

    // Tries turns in rising order, so the first way found is the first of its length.
    private boolean dive(int depth, int left, int lastFace) {
      if (left == 0 || depth >= LONGEST) {
        return left == 0;
      }
      for (int face = 0; face < FACES; face++) {
        if (isNeedless(lastFace, face)) {
          continue;
        }
        copyDown(depth);
        for (int i = 0; i < turnsOf(face); i++) {
          advance(depth + 1, face);
          if (turnsToGoal(stateAt(depth + 1)) < left) {
            way[depth] = firstTurnOf(face) + i;
            if (dive(depth + 1, left - 1, face)) {
              return true;
            }
          }
        }
      }
      return false;
    }

    // The same face twice is never shortest, and of two opposite faces the lower goes first.
    private static boolean isNeedless(int lastFace, int face) {
      return face == lastFace || face == lastFace - 1 && face / 2 == lastFace / 2;
    }

    private int turnsOf(int face) {
      return face < facesWithQuarters ? 3 : 1;
    }

    private int firstTurnOf(int face) {
      return face < facesWithQuarters ? 3 * face : 3 * face + 1;
    }

    private void copyDown(int depth) {
      int from = depth * features.length;
      System.arraycopy(numbers, from, numbers, from + features.length, features.length);
    }

    private void advance(int depth, int face) {
      int from = depth * features.length;
      for (int i = 0; i < features.length; i++) {
        numbers[from + i] = features[i].next[FACES * numbers[from + i] + face];
      }
    }

    private int stateAt(int depth) {
      int from = depth * features.length;
      int state = 0;
      for (int i = 0; i < features.length; i++) {
        state = state * features[i].size + numbers[from + i];
      }
      return state;
    }

    private void showState(int state) {
      int rest = state;
      for (int i = features.length - 1; i >= 0; i--) {
        numbers[i] = rest % features[i].size;
        rest /= features[i].size;
      }
    }

    // Exact within the reach; beyond it, the least that it can be.
    private int turnsToGoal(int state) {
      int stored = stored(state);
      return stored == 0 ? reach + 1 : stored - 1;
    }

    private int stored(int state) {
      return (int) (near[state >> 4] >>> 4 * (state & 15)) & 15;
    }

    private void store(int state, int turns) {
      near[state >> 4] |= (turns + 1L) << 4 * (state & 15);
    }

    private void prepare() {
      int states = 1;
      for (int i = 0; i < features.length; i++) {
        features[i].learn(facesWithQuarters);
        states *= features[i].size;
      }
      near = new long[(states + 15) / 16];
      spreadFromGoal();
    }

    // The turns of a stage can all be undone, so the way from the goal is as long as the way to it.
    private void spreadFromGoal() {
      int[] queue = new int[queueLength];
      int count = 1;
      store(0, 0);
      for (int i = 0; i < count && i < queue.length; i++) {
        count = spread(queue[i], queue, count);
      }
    }

    private int spread(int state, int[] queue, int count) {
      int newCount = count;
      int turns = stored(state);
      showState(state);
      for (int face = 0; face < FACES; face++) {
        copyDown(0);
        for (int i = 0; i < turnsOf(face); i++) {
          advance(1, face);
          int neighbour = stateAt(1);
          if (stored(neighbour) == 0) {
            store(neighbour, turns);
            if (turns < reach && newCount < queue.length) {
              queue[newCount] = neighbour;
              newCount++;
            }
          }
        }
      }
      return newCount;
    }
  }
}
