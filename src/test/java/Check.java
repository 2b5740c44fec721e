/** Counts answers and tells those that are not as due; every test ends with finish(). */
final class Check {
  private int asked = 0;
  private int wrong = 0;

  void due(String what, long got, long want) {
    asked++;
    if (got != want) {
      wrong++;
      System.out.println(what + " answered " + got + ", due is " + want);
    }
  }

  void holds(String what, boolean it) {
    due(what, it ? 1 : 0, 1);
  }

  int asked() {
    return asked;
  }

  boolean failed() {
    return wrong != 0;
  }

  void finish() {
    System.out.println(asked + " answers looked at, " + wrong + " not as due");
    if (wrong != 0) System.exit(1);
  }
}
