/** Numbers that are out of 0 .. limit - 1. */
final class Wrong {
  private Wrong() {}

  static int[] numbers(int limit) {
    return new int[] {
      -1, limit, limit + 1, -limit, 256, -256, 1 << 16, Integer.MIN_VALUE, Integer.MAX_VALUE
    };
  }
}
