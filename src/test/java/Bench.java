import java.lang.reflect.InvocationTargetException;
import java.lang.reflect.Method;
import java.lang.reflect.Modifier;

/** What the tests by promise and by sentence share: answers told under their words, and boards to begin from. */
abstract class Bench {
  static final int BAD = -1, NO = -2, FULL = -3, NONE = -4;
  static final int MIN = Integer.MIN_VALUE, MAX = Integer.MAX_VALUE;
  static final int[] BASE_X = {0, 40, 40, 0}, BASE_Y = {0, 0, 40, 40};
  static final int[] IDLE_X = {2, 38, 38, 2}, IDLE_Y = {2, 2, 38, 38};
  static final Check CHECK = new Check();

  /**
   * 0, 2 and 3 pot three each, and the fourth of each is covered by 1's 9, 13 and 5: then each shot of 1 is a
   * round. With TIME 10 the thirteenth shot ends the round in which it came, the sixteenth the second of five.
   */
  static final int[] ROUNDS_OF_ONE = {0, 41, 41, 4, 41, 41, 8, 41, 41, 12, 5, 5, 9, 5, 5, 2, 41, 41, 6, 41, 41,
      10, 41, 41, 14, 10, 5, 3, 41, 41, 7, 41, 41, 11, 41, 41, 15, 15, 5, 13, 10, 5, 15, 15, 5, 5, 15, 5};

  private static String words = "";

  /** The words of the document that the answers behind this are looked at for. */
  static void says(String sentence) { words = sentence; }

  static void due(String what, int got, int want) { CHECK.due(words + " | " + what, got, want); }

  static void at(JumpDiscs x, int disc, int px, int py) {
    due("x of " + disc, x.about(disc, 1), px);
    due("y of " + disc, x.about(disc, 2), py);
  }

  /** SMALL DISCS of the four far from all: a TURN that changes nothing else is a SHOT of one at its own place. */
  static JumpDiscs ready() {
    JumpDiscs x = new JumpDiscs();
    for (int p = 0; p < 4; p++) x.put(p, IDLE_X[p], IDLE_Y[p]);
    return x;
  }

  static void idle(JumpDiscs x, int turns) {
    for (int i = 0; i < turns; i++) {
      int p = x.game(0);
      due("an idle turn of " + p, p < 0 ? p : x.shoot(p, x.about(p, 1), x.about(p, 2)), 0);
    }
  }

  static void putAll(JumpDiscs x, int player, int px, int py) {
    for (int d = player; d < 16; d += 4) x.put(d, px, py);
  }

  /** All DISCS of a player on one heap, and a DISC of another player on top: it has no FREE one. */
  static void holdDown(JumpDiscs x, int player, int px, int py, int top) {
    putAll(x, player, px, py);
    x.put(top, px, py);
  }

  static void row(JumpDiscs x, int... shots) {
    for (int i = 0; i < shots.length; i += 3) x.write(shots[i], shots[i + 1], shots[i + 2]);
  }

  static boolean onMat(int px, int py) { return px >= 0 && px <= 40 && py >= 0 && py <= 40; }
  static int nearest(int v) { return v < 0 ? 0 : v > 40 ? 40 : v; }

  /** SEED as the document tells it. */
  static final class Seed {
    private long now;

    Seed(int v) { now = v; }

    int off(int m) {
      now = now * 48271 % 2147483647L;
      return (int) (now % (2 * m + 1)) - m;
    }
  }

  /** Every method without parameters is a test: so none is forgotten, and each must say its sentence and look. */
  static void runAll(Class<? extends Bench> tests) {
    int sentences = 0;
    for (Method m : tests.getDeclaredMethods()) {
      if (m.isSynthetic() || m.getParameterCount() > 0 || !Modifier.isStatic(m.getModifiers())
          || m.getReturnType() != void.class) continue;
      words = "";
      int before = CHECK.asked();
      run(m);
      sentences++;
      CHECK.holds(m.getName() + " says what it looks for", !words.isEmpty() && CHECK.asked() > before);
    }
    System.out.println(sentences + " tests of single sentences");
    CHECK.finish();
  }

  private static void run(Method m) {
    try {
      m.setAccessible(true);
      m.invoke(null);
    } catch (IllegalAccessException | InvocationTargetException e) {
      CHECK.holds(m.getName() + ": " + words + " | threw " + e.getCause(), false);
    }
  }
}
