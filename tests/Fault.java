/** The five ways in which a cube is not lawful, in the document's order. */
enum Fault {
  NO_CORNERS(StageCube.NO_CORNERS),
  NO_EDGES(StageCube.NO_EDGES),
  TWISTED(StageCube.TWISTED),
  FLIPPED(StageCube.FLIPPED),
  ODD(StageCube.ODD);

  /** What lawful(), solve() and flips() answer when this is the only fault. */
  final int answer;

  Fault(int answer) {
    this.answer = answer;
  }

  /** Puts this fault, and no other, into a cube that is HOME. */
  void put(StageCube cube) {
    switch (this) {
      case NO_CORNERS:
        cube.corner(7, 2, 0);
        break;
      case NO_EDGES:
        cube.edge(11, 0, 0);
        break;
      case TWISTED:
        cube.corner(4, 4, 1);
        break;
      case FLIPPED:
        cube.edge(5, 5, 1);
        break;
      default:
        cube.corner(0, 1, 0);
        cube.corner(1, 0, 0);
        break;
    }
  }

  /** The same with the model. */
  void put(ModelCube cube) {
    switch (this) {
      case NO_CORNERS:
        cube.corner[7] = 2;
        break;
      case NO_EDGES:
        cube.edge[11] = 0;
        break;
      case TWISTED:
        cube.twist[4] = 1;
        break;
      case FLIPPED:
        cube.flip[5] = 1;
        break;
      default:
        cube.corner[0] = 1;
        cube.corner[1] = 0;
        break;
    }
  }
}
