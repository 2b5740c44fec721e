import java.util.ArrayList;
import java.util.List;
import java.util.function.Supplier;
import java.util.function.ToIntFunction;

/** BAD, NO, FULL: "Of several the first; nothing changes then", for every call that can be refused. */
public final class RefusedCallsTest extends Bench {
  private static final int[] NONE_OF_16 = {MIN, -1, 16, MAX};

  /** A board in the midst of a game, with a PILE, DISCS in THE CUP, a ROW with a GAP, pairs seen and a board KEPT. */
  private static JumpDiscs amidst() {
    JumpDiscs x = ready();
    x.rule(2, 10);
    idleFive(x);
    x.put(8, 10, 10);
    x.put(5, 11, 10);
    x.put(10, 11, 11);
    x.put(4, 41, 41);
    x.put(15, 41, 41);
    x.rule(0, 2);
    x.rule(1, 1);
    x.seed(4711);
    row(x, 0, 5, 5, 1, -1, -1, 2, 5, 5);
    x.seen(1, 0, 0, 20, 20, 21, 18);
    x.keep();
    x.put(12, 30, 30);
    return x;
  }

  private static void idleFive(JumpDiscs x) { for (int i = 0; i < 5; i++) x.shoot(i % 4, IDLE_X[i % 4], IDLE_Y[i % 4]); }

  private static JumpDiscs overByCup() {
    JumpDiscs x = amidst();
    putAll(x, 2, 41, 41);
    return x;
  }

  private static JumpDiscs timeIsCome() {
    JumpDiscs x = amidst();
    x.rule(0, 0);
    x.rule(1, 0);
    for (int i = 5; i < 18; i++) x.shoot(i % 4, IDLE_X[i % 4], IDLE_Y[i % 4]);
    return x;
  }

  private static JumpDiscs overByTime() {
    JumpDiscs x = timeIsCome();
    for (int i = 18; i < 32; i++) x.shoot(i % 4, IDLE_X[i % 4], IDLE_Y[i % 4]);
    return x;
  }

  private static JumpDiscs full() {
    JumpDiscs x = amidst();
    for (int i = 3; i < 24; i++) x.write(i % 16, i, i);
    x.keep();
    x.put(0, 3, 3);
    x.keep();
    x.put(0, 4, 4);
    return x;
  }

  /** All that calls tell that change nothing. */
  private static List<Integer> look(JumpDiscs x) {
    List<Integer> told = new ArrayList<>();
    for (int d = 0; d < 16; d++) for (int what = 0; what <= 6; what++) told.add(x.about(d, what));
    for (int what = 0; what <= 4; what++) told.add(x.game(what));
    for (int p = 0; p < 4; p++) {
      told.add(x.score(p));
      told.add(x.twelfths(p));
      for (int what = 0; what <= 2; what++) told.add(x.best(p, what));
      for (int k = 0; k <= 4; k++) told.add(x.scatter(p, k, 0));
    }
    told.add(x.points(0));
    told.add(x.ahead());
    told.add(x.wrong());
    told.add(x.canBe(0));
    for (int what = 0; what <= 5; what++) told.add(x.count(what));
    return told;
  }

  /** What is not told at once: the rules, SEED, THE TURN while it is over, what is KEPT. */
  private static List<Integer> goOn(JumpDiscs x) {
    List<Integer> told = new ArrayList<>();
    for (int what = 0; what <= 1; what++) told.add(x.rule(what, 3));
    told.add(x.rule(2, 400));
    for (int d = 2; d < 16; d += 4) told.add(x.put(d, 20, 2 * d));
    for (int i = 0; i < 6; i++) {
      int free = x.game(4);
      told.add(free);
      int disc = Integer.numberOfTrailingZeros(free);
      told.add(x.shoot(disc, 30, 25));
      told.add(x.about(disc, 1));
      told.add(x.about(disc, 2));
    }
    told.add(x.seen(1, 0, 0, 0, 0, 0, 0));
    told.add(x.write(3, 5, 5));
    for (int i = 0; i < 3; i++) {
      told.add(x.back());
      for (int d = 0; d < 16; d++) told.add(x.about(d, 1) * 100 + x.about(d, 2));
    }
    return told;
  }

  private static void refused(String call, Supplier<JumpDiscs> board, int want, ToIntFunction<JumpDiscs> calling) {
    JumpDiscs x = board.get(), beside = board.get();
    due(call, calling.applyAsInt(x), want);
    due(call + ": nothing is changed", look(x).equals(look(beside)) ? 1 : 0, 1);
    due(call + ": nor what comes behind", goOn(x).equals(goOn(beside)) ? 1 : 0, 1);
  }

  private static void theBoardsAreAsTheyAreMeant() {
    says("(the boards that the other tests begin from)");
    due("amidst: 1's turn", amidst().game(0), 1);
    due("amidst: a pile", amidst().about(10, 6), 1 << 5 | 1 << 8 | 1 << 10);
    due("amidst: time is not come", amidst().game(2), NONE);
    due("time is come", timeIsCome().game(2), 4);
    due("over by THE CUP", overByCup().game(3), 1);
    due("over by THE CUP, not by time", overByCup().game(2), NONE);
    due("over by time", overByTime().game(2), 0);
    due("over by time", overByTime().game(3), 1);
    due("full", full().count(3), 24);
    due("full", full().count(4), 3);
    JumpDiscs x = amidst(), y = amidst();
    y.seed(4712);
    due("another SEED is seen", goOn(x).equals(goOn(y)) ? 1 : 0, 0);
  }

  private static void ruleRefused() {
    says("rule: BAD; NO: TIME below the TURNS that are gone; nothing changes then");
    for (int what = 0; what <= 1; what++) {
      int w = what;
      for (int v : new int[] {MIN, -1, 6, MAX}) refused("rule(" + w + ", " + v + ")", () -> amidst(), BAD, x -> x.rule(w, v));
    }
    for (int v : new int[] {MIN, 9, 401, MAX}) {
      refused("rule(2, " + v + ")", () -> amidst(), BAD, x -> x.rule(2, v));
      refused("rule(2, " + v + ") when TIME is come", () -> timeIsCome(), BAD, x -> x.rule(2, v));
      refused("rule(2, " + v + ") when over", () -> overByTime(), BAD, x -> x.rule(2, v));
    }
    for (int v : new int[] {10, 17}) refused("rule(2, " + v + ")", () -> timeIsCome(), NO, x -> x.rule(2, v));
    for (int v : new int[] {10, 31}) refused("rule(2, " + v + ")", () -> overByTime(), NO, x -> x.rule(2, v));
    for (int w : new int[] {MIN, -1, 3, MAX}) refused("rule(" + w + ", 5)", () -> amidst(), BAD, x -> x.rule(w, 5));
  }

  private static void seedRefused() {
    says("seed: BAD; nothing changes then");
    for (int v : new int[] {MIN, -1, 0, MAX}) refused("seed(" + v + ")", () -> amidst(), BAD, x -> x.seed(v));
  }

  private static void putRefused() {
    says("put: BAD; nothing changes then");
    for (int d : NONE_OF_16) refused("put(" + d + ", 5, 5)", () -> amidst(), BAD, x -> x.put(d, 5, 5));
    int[][] places = {{-1, 0}, {0, -1}, {41, 40}, {40, 41}, {-1, 41}, {41, -1}, {-2, -2}, {42, 42}, {MIN, 5}, {5, MAX}};
    for (int[] p : places) {
      refused("put(8, " + p[0] + ", " + p[1] + ")", () -> amidst(), BAD, x -> x.put(8, p[0], p[1]));
      refused("put(2, " + p[0] + ", " + p[1] + ") when over", () -> overByCup(), BAD, x -> x.put(2, p[0], p[1]));
    }
  }

  private static void aboutRefused() {
    says("about: BAD; nothing changes then");
    for (int d : NONE_OF_16) refused("about(" + d + ", 0)", () -> amidst(), BAD, x -> x.about(d, 0));
    for (int w : new int[] {MIN, -1, 7, MAX}) refused("about(0, " + w + ")", () -> amidst(), BAD, x -> x.about(0, w));
    refused("about(16, 7)", () -> amidst(), BAD, x -> x.about(16, 7));
  }

  private static void shootRefused() {
    says("shoot: BAD; NO: not of the player, not FREE, in THE CUP, over; of several the first; nothing changes then");
    for (int d : NONE_OF_16) {
      refused("shoot(" + d + ", 5, 5)", () -> amidst(), BAD, x -> x.shoot(d, 5, 5));
      refused("shoot(" + d + ", 5, 5) when over", () -> overByCup(), BAD, x -> x.shoot(d, 5, 5));
    }
    int[][] places = {{-1, 5}, {5, -1}, {41, 5}, {5, 41}, {-1, -1}, {41, 41}, {MIN, 5}, {5, MAX}};
    for (int[] p : places) {
      refused("shoot(1, " + p[0] + ", " + p[1] + ")", () -> amidst(), BAD, x -> x.shoot(1, p[0], p[1]));
      refused("shoot(4, " + p[0] + ", " + p[1] + ")", () -> amidst(), BAD, x -> x.shoot(4, p[0], p[1]));
      refused("shoot(1, " + p[0] + ", " + p[1] + ") when over", () -> overByTime(), BAD, x -> x.shoot(1, p[0], p[1]));
    }
    for (int d : new int[] {0, 2, 3, 6, 7, 10}) refused("shoot(" + d + "), not of 1", () -> amidst(), NO, x -> x.shoot(d, 5, 5));
    refused("shoot(5), not FREE", () -> amidst(), NO, x -> x.shoot(5, 5, 5));
    refused("shoot(4), in THE CUP", () -> amidst(), NO, x -> x.shoot(4, 5, 5));
    for (int d = 0; d < 16; d++) {
      int one = d;
      refused("shoot(" + d + ") when over by THE CUP", () -> overByCup(), NO, x -> x.shoot(one, 5, 5));
      refused("shoot(" + d + ") when over by TIME", () -> overByTime(), NO, x -> x.shoot(one, 5, 5));
    }
  }

  private static JumpDiscs withOwnCup() {
    JumpDiscs x = amidst();
    x.put(13, 41, 41);
    x.put(9, 11, 12);
    return x;
  }

  private static void ownDiscInTheCupRefused() {
    says("shoot, blow: NO: in THE CUP (of the player whose TURN it is)");
    refused("shoot(13)", () -> withOwnCup(), NO, x -> x.shoot(13, 5, 5));
    refused("blow(13)", () -> withOwnCup(), NO, x -> x.blow(13));
    due("9 lies on the pile and may", withOwnCup().blow(9), 1 << 5 | 1 << 8 | 1 << 9 | 1 << 10);
  }

  private static void blowRefused() {
    says("blow: BAD; NO: likewise, at BASE, alone; nothing changes then");
    for (int d : NONE_OF_16) {
      refused("blow(" + d + ")", () -> amidst(), BAD, x -> x.blow(d));
      refused("blow(" + d + ") when over", () -> overByTime(), BAD, x -> x.blow(d));
    }
    refused("blow(10), not of 1", () -> amidst(), NO, x -> x.blow(10));
    refused("blow(5), not FREE", () -> amidst(), NO, x -> x.blow(5));
    refused("blow(9), at BASE", () -> amidst(), NO, x -> x.blow(9));
    refused("blow(1), alone", () -> amidst(), NO, x -> x.blow(1));
    refused("blow(4), in THE CUP", () -> amidst(), NO, x -> x.blow(4));
    for (int d = 0; d < 16; d++) {
      int one = d;
      refused("blow(" + d + ") when over by THE CUP", () -> overByCup(), NO, x -> x.blow(one));
      refused("blow(" + d + ") when over by TIME", () -> overByTime(), NO, x -> x.blow(one));
    }
  }

  private static void askingRefused() {
    says("game, score, twelfths, points, chance, count: BAD; NO; nothing changes then");
    for (int w : new int[] {MIN, -1, 5, MAX}) refused("game(" + w + ")", () -> overByTime(), BAD, x -> x.game(w));
    for (int p : new int[] {MIN, -1, 4, MAX}) {
      refused("score(" + p + ")", () -> amidst(), BAD, x -> x.score(p));
      refused("twelfths(" + p + ")", () -> amidst(), BAD, x -> x.twelfths(p));
      refused("best(" + p + ", 0)", () -> amidst(), -100, x -> x.best(p, 0));
      refused("best(" + p + ", 3)", () -> overByCup(), -100, x -> x.best(p, 3));
    }
    for (int s : new int[] {MIN, -1, 2, MAX}) refused("points(" + s + ")", () -> amidst(), BAD, x -> x.points(s));
    for (int w : new int[] {MIN, -1, 6, MAX}) refused("count(" + w + ")", () -> amidst(), BAD, x -> x.count(w));
    for (int d : NONE_OF_16) refused("chance(" + d + ", -1)", () -> amidst(), BAD, x -> x.chance(d, -1));
    for (int aim : new int[] {MIN, -2, 16, MAX}) {
      refused("chance(8, " + aim + ")", () -> amidst(), BAD, x -> x.chance(8, aim));
      refused("chance(4, " + aim + "), in THE CUP", () -> amidst(), BAD, x -> x.chance(4, aim));
    }
    int[][] no = {{4, -1}, {4, 8}, {8, 4}, {8, 9}, {8, 8}, {9, 9}, {15, 15}};
    for (int[] n : no) refused("chance(" + n[0] + ", " + n[1] + ")", () -> amidst(), NO, x -> x.chance(n[0], n[1]));
    for (int w = 0; w <= 2; w++) {
      int what = w;
      refused("best(2, " + w + ")", () -> overByCup(), -102, x -> x.best(2, what));
    }
    refused("ahead() when over by THE CUP", () -> overByCup(), -10002, x -> x.ahead());
    refused("ahead() when over by TIME", () -> overByTime(), -10002, x -> x.ahead());
  }

  private static void rowsRefused() {
    says("write, canBe: BAD; NO; FULL; of several the first; nothing changes then");
    for (int d : NONE_OF_16) {
      refused("write(" + d + ", 5, 5)", () -> amidst(), BAD, x -> x.write(d, 5, 5));
      refused("write(" + d + ", 5, 5) when FULL", () -> full(), BAD, x -> x.write(d, 5, 5));
    }
    int[][] places = {{-1, 0}, {0, -1}, {41, 40}, {40, 41}, {-1, 41}, {41, -1}, {-2, -2}, {42, 42}, {MIN, 5}, {5, MAX}};
    for (int[] p : places) {
      refused("write(3, " + p[0] + ", " + p[1] + ")", () -> amidst(), BAD, x -> x.write(3, p[0], p[1]));
      refused("write(3, " + p[0] + ", " + p[1] + ") when FULL", () -> full(), BAD, x -> x.write(3, p[0], p[1]));
    }
    refused("write(3, 5, 5)", () -> full(), FULL, x -> x.write(3, 5, 5));
    refused("write(3, -1, -1)", () -> full(), FULL, x -> x.write(3, -1, -1));
    refused("write(3, 41, 41)", () -> full(), FULL, x -> x.write(3, 41, 41));
    for (int w : new int[] {MIN, -1, 2, MAX}) {
      refused("canBe(" + w + ")", () -> amidst(), BAD, x -> x.canBe(w));
      refused("canBe(" + w + ") with two GAPS", () -> withTwoGaps(), BAD, x -> x.canBe(w));
    }
    refused("canBe(0)", () -> withTwoGaps(), NO, x -> x.canBe(0));
    refused("canBe(1)", () -> withTwoGaps(), NO, x -> x.canBe(1));
  }

  private static JumpDiscs withTwoGaps() {
    JumpDiscs x = amidst();
    x.write(3, -1, -1);
    return x;
  }

  private static void scatterRefused() {
    says("seen, scatter: BAD; NO; nothing changes then");
    for (int p : new int[] {MIN, -1, 4, MAX}) {
      refused("seen by " + p, () -> amidst(), BAD, x -> x.seen(p, 1, 1, 1, 1, 1, 1));
      refused("scatter(" + p + ", 0, 0)", () -> amidst(), BAD, x -> x.scatter(p, 0, 0));
    }
    for (int i = 0; i < 6; i++) {
      for (int v : new int[] {MIN, -1, 41, MAX}) {
        int[] a = {1, 1, 1, 1, 1, 1};
        a[i] = v;
        refused("seen, number " + i + " " + v, () -> amidst(), BAD, x -> x.seen(1, a[0], a[1], a[2], a[3], a[4], a[5]));
      }
    }
    for (int k : new int[] {MIN, -1, 5, MAX}) refused("scatter(1, " + k + ", 2)", () -> amidst(), BAD, x -> x.scatter(1, k, 2));
    for (int w : new int[] {MIN, -1, 3, MAX}) {
      refused("scatter(1, 2, " + w + ")", () -> amidst(), BAD, x -> x.scatter(1, 2, w));
      refused("scatter(0, 0, " + w + "), none", () -> amidst(), BAD, x -> x.scatter(0, 0, w));
    }
    refused("scatter(0, 2, 0)", () -> amidst(), NO, x -> x.scatter(0, 2, 0));
    refused("scatter(1, 1, 1)", () -> amidst(), NO, x -> x.scatter(1, 1, 1));
  }

  private static JumpDiscs withNoneKept() {
    JumpDiscs x = amidst();
    x.back();
    return x;
  }

  private static void keepAndBackRefused() {
    says("keep: FULL; back: NO; nothing changes then");
    refused("keep()", () -> full(), FULL, x -> x.keep());
    refused("back()", () -> withNoneKept(), NO, x -> x.back());
  }

  private static void askingChangesNothing() {
    says("Calls that only tell change nothing");
    List<Supplier<JumpDiscs>> boards = List.of(() -> amidst(), () -> overByCup(), () -> timeIsCome(), () -> overByTime(), () -> full());
    for (Supplier<JumpDiscs> board : boards) {
      JumpDiscs x = board.get(), beside = board.get(), third = board.get();
      List<Integer> once = look(x);
      due("told twice alike", look(x).equals(once) ? 1 : 0, 1);
      look(beside);
      due("nor what comes behind", goOn(beside).equals(goOn(third)) ? 1 : 0, 1);
    }
  }

  public static void main(String[] args) { runAll(RefusedCallsTest.class); }
}
