/** Counts and prints the answers that are not the ones that are due. */
final class Due {
  private static final int SHOWN = 20;
  private String sentence = "";
  private int wrong = 0;

  /** The words of the document that the next answers are due by. */
  void by(String words) {
    sentence = words + ": ";
  }

  void is(String call, long got, long want) {
    if (got != want) {
      wrong++;
      if (wrong <= SHOWN) {
        System.out.println(sentence + call + " answered " + got + ", due is " + want);
      }
    }
  }

  void end() {
    if (wrong != 0) {
      System.out.println(wrong + " answers are not as due");
      System.exit(1);
    }
  }
}
