import java.util.Arrays;
import java.util.Map;
import java.util.Random;
import java.util.TreeMap;

/** Runs of random calls (from told seeds, so always the same), each answer against Plain. */
public final class RandomRunsTest {
  private static final int CALLS = 512;

  private final Check check = new Check();
  private final Map<String, Integer> met = new TreeMap<>();
  private Random random;
  private JumpDiscs x;
  private Plain plain;
  private int run, calls;

  private void due(String call, int got, int want) {
    calls++;
    check.due("run " + run + ", call " + calls + ": " + call, got, want);
  }

  private void met(String what) { met.merge(what, 1, Integer::sum); }
  private int upTo(int n) { return random.nextInt(n); }
  private boolean rarely(int n) { return upTo(n) == 0; }
  private int disc() { return rarely(40) ? odd() : upTo(16); }
  private int place() { return rarely(60) ? odd() : upTo(41); }

  private int odd() {
    int[] odds = {-1, -2, 4, 5, 6, 7, 16, 17, 40, 41, 42, 100, Integer.MAX_VALUE, Integer.MIN_VALUE};
    return odds[upTo(odds.length)];
  }

  private int what(int n) { return rarely(20) ? odd() : upTo(n); }

  private void put(int d, int px, int py) {
    boolean wasOver = plain.game(3) == 1;
    int turn = plain.t.turn;
    due("put(" + d + ", " + px + ", " + py + ")", x.put(d, px, py), plain.put(d, px, py));
    if (wasOver && plain.game(3) == 0) met("put: goes on");
    if (!wasOver && plain.game(3) == 1) met("put: over");
    if (turn != plain.t.turn) met("put: passed over");
  }

  private void shoot(int d, int px, int py) {
    int ends = plain.t.endsToCome;
    int turn = plain.t.turn;
    int want = plain.shoot(d, px, py);
    due("shoot(" + d + ", " + px + ", " + py + ")", x.shoot(d, px, py), want);
    met("shoot: " + want);
    noteTurn(ends, turn, want);
  }

  private void blow(int d) {
    int ends = plain.t.endsToCome;
    int turn = plain.t.turn;
    int want = plain.blow(d);
    due("blow(" + d + ")", x.blow(d), want);
    met("blow: " + Math.min(want, 0));
    noteTurn(ends, turn, want == -1 || want == -2 ? want : 0);
  }

  private void noteTurn(int ends, int turn, int want) {
    if (want < 0) return;
    if (ends < 0 && plain.t.endsToCome >= 0) met("time comes, ends left " + plain.t.endsToCome);
    if (ends > 0 && plain.t.endsToCome == 0) met("over by time");
    if (plain.t.over() && plain.t.endsToCome != 0) met("over by cup");
    if (want == 0 && plain.t.turn != (turn + 1) % 4) met("passed over");
    if (want == 1 && plain.t.turn != turn) met("one more, passed over");
    if (want == 0 && plain.t.over() && plain.t.turn != (turn + 1) % 4) met("over by time, passed over");
    if (want == 1 && plain.t.over() && plain.t.turn != (turn + 1) % 4) met("over by cup, two passed over");
  }

  /** A SHOT that is allowed, if there is one. */
  private void playOn(boolean atCup) {
    int free = plain.game(4);
    if (free == 0) return;
    int d = upTo(16);
    while ((free >> d & 1) == 0) d = upTo(16);
    if (rarely(4) && Integer.bitCount(plain.about(d, 6)) > 1) blow(d);
    else if (atCup) shoot(d, 18 + upTo(5), 18 + upTo(5));
    else shoot(d, upTo(41), upTo(41));
  }

  private void rule() {
    int w = what(3);
    int v = rarely(20) ? odd() : w != 2 ? upTo(6) : rarely(2) ? 10 + upTo(30) : Math.max(10, plain.t.gone + upTo(3) - 1);
    boolean wasOver = plain.game(3) == 1;
    int want = plain.rule(w, v);
    due("rule(" + w + ", " + v + ")", x.rule(w, v), want);
    if (want == -2) met("rule: no");
    if (wasOver && plain.game(3) == 0) met("rule: goes on");
    if (w == 2 && want > 0 && v == plain.t.gone) met("rule: time is now");
  }

  private void ask() {
    switch (upTo(11)) {
      case 0: { int d = disc(), w = what(7); due("about(" + d + ", " + w + ")", x.about(d, w), plain.about(d, w)); break; }
      case 1: { int w = what(5); due("game(" + w + ")", x.game(w), plain.game(w)); break; }
      case 2: { int p = what(4); due("score(" + p + ")", x.score(p), plain.score(p)); break; }
      case 3: { int p = what(4); due("twelfths(" + p + ")", x.twelfths(p), plain.twelfths(p)); break; }
      case 4: { int s = what(2); due("points(" + s + ")", x.points(s), plain.points(s)); break; }
      case 5: case 6: {
        int d = disc(), aim = rarely(4) ? -1 : disc();
        due("chance(" + d + ", " + aim + ")", x.chance(d, aim), plain.chance(d, aim));
        break;
      }
      case 7: case 8: {
        int p = what(4), w = what(3), want = plain.best(p, w);
        due("best(" + p + ", " + w + ")", x.best(p, w), want);
        if (want == -102) met("best: no");
        if (w == 1 && want >= 0) met("best: covers");
        break;
      }
      case 9: due("ahead()", x.ahead(), plain.ahead()); break;
      default: { int w = what(6); due("count(" + w + ")", x.count(w), plain.count(w)); break; }
    }
  }

  private void keepOrBack() {
    if (rarely(2)) due("keep()", x.keep(), plain.keep());
    else due("back()", x.back(), plain.back());
  }

  private void look() {
    for (int d = 0; d < 16; d++) for (int w = 0; w < 7; w++) look("about " + d + " " + w, x.about(d, w), plain.about(d, w));
    for (int w = 0; w < 5; w++) look("game " + w, x.game(w), plain.game(w));
    for (int p = 0; p < 4; p++) {
      look("score " + p, x.score(p), plain.score(p));
      look("twelfths " + p, x.twelfths(p), plain.twelfths(p));
      for (int w = 0; w < 3; w++) look("best " + p + " " + w, x.best(p, w), plain.best(p, w));
    }
    for (int s = 0; s < 2; s++) look("points " + s, x.points(s), plain.points(s));
    for (int w = 0; w < 6; w++) look("count " + w, x.count(w), plain.count(w));
    look("ahead", x.ahead(), plain.ahead());
  }

  private void look(String what, int got, int want) {
    check.due("run " + run + ", behind call " + calls + ": " + what, got, want);
  }

  private void wildRun() {
    int x0 = upTo(35), y0 = upTo(35), cupShare = 2 + upTo(8);
    while (calls < CALLS) {
      switch (upTo(9)) {
        case 0: case 1: put(disc(), x0 + upTo(6), y0 + upTo(6)); break;
        case 2: if (upTo(10) < cupShare) put(disc(), 41, 41); else put(disc(), -1, -1); break;
        case 3: put(disc(), place(), place()); break;
        case 4: shoot(disc(), place(), place()); break;
        case 5: blow(disc()); break;
        case 6: if (rarely(3)) rule(); else playOn(rarely(2)); break;
        case 7: if (rarely(3)) keepOrBack(); else if (rarely(6)) sow(); else if (rarely(8)) anew(); break;
        default: ask(); ask(); break;
      }
      if (check.failed()) return;
    }
  }

  private void anew() { due("anew()", x.anew(), plain.anew()); }

  private void sow() {
    int v = rarely(5) ? odd() : 1 + random.nextInt(2147483646);
    due("seed(" + v + ")", x.seed(v), plain.seed(v));
  }

  private void gameRun() {
    sow();
    due("rule(2, ..)", x.rule(2, 10 + run % 12), plain.rule(2, 10 + run % 12));
    boolean atCup = run % 3 == 0;
    while (calls < CALLS) {
      playOn(atCup && rarely(3));
      if (rarely(10)) rule();
      if (rarely(25)) put(upTo(16), upTo(41), upTo(41));
      if (rarely(60)) put(upTo(16), 41, 41);
      if (rarely(90)) keepOrBack();
      ask();
      if (rarely(20)) look();
      if (plain.game(3) == 1 && rarely(3)) rule();
      if (plain.game(3) == 1 && rarely(20)) anew();
      if (check.failed()) return;
    }
  }

  /** Rows that mostly could be: each SHOT is of one that was allowed in a play beside them. */
  private void rowRun() {
    due("rule(2, 10)", x.rule(2, 10), plain.rule(2, 10));
    for (int part = 0; part < 8; part++) {
      due("wipe()", x.wipe(), plain.wipe());
      Plain.Table told = new Plain.Table();
      told.time = 10;
      int length = rarely(3) ? 26 : upTo(20);
      int gapAt = rarely(4) ? -1 : upTo(Math.max(1, length));
      int x0 = upTo(36), y0 = upTo(36);
      for (int i = 0; i < length; i++) writeNext(told, i == gapAt || rarely(60), x0, y0);
      due("wrong()", x.wrong(), plain.wrong());
      if (plain.wrong() == -4) met("row: none wrong"); else met("row: wrong");
      if (rarely(10)) {
        due("anew()", x.anew(), plain.anew());
        due("write(16, 0, 0)", x.write(16, 0, 0), plain.write(16, 0, 0));
      }
      due("count(3)", x.count(3), plain.count(3));
      if (part % 2 == 0) {
        int many = plain.canBe(0);
        due("canBe(0)", x.canBe(0), many);
        met(many == -2 ? "canBe: no" : many == 0 ? "canBe: none" : many >= 1681 ? "canBe: all" : "canBe: some");
        if (many > 0) due("canBe(1)", x.canBe(1), plain.canBe(1));
      }
      if (check.failed()) return;
    }
  }

  private void writeNext(Plain.Table told, boolean gap, int x0, int y0) {
    int d = upTo(16);
    for (int i = 0; i < 200 && !told.allowed(told.discs.get(d)); i++) d = upTo(16);
    if (rarely(80)) d = upTo(16);
    int px = x0 + upTo(5), py = y0 + upTo(5);
    if (rarely(9)) px = py = 41;
    if (told.allowed(told.discs.get(d))) {
      told.place(told.discs.get(d), px, py);
      told.turnTaken(px == 41);
    }
    if (gap) px = py = -1;
    int want = plain.write(d, px, py);
    due("write(" + d + ", " + px + ", " + py + ")", x.write(d, px, py), want);
    if (want == -3) met("row: full");
  }

  private void scatterRun() {
    while (calls < CALLS) {
      int[] a = {what(4), place(), place(), place(), place(), place(), place()};
      int want = plain.seen(a[0], a[1], a[2], a[3], a[4], a[5], a[6]);
      due("seen(" + Arrays.toString(a) + ")", x.seen(a[0], a[1], a[2], a[3], a[4], a[5], a[6]), want);
      int p = what(4), k = what(5), w = what(3);
      due("scatter(" + p + ", " + k + ", " + w + ")", x.scatter(p, k, w), plain.scatter(p, k, w));
      if (rarely(50)) keepOrBack();
      if (check.failed()) return;
    }
  }

  private void runAll(int from, int end) {
    for (run = from; run < end && !check.failed(); run++) {
      random = new Random(run);
      x = new JumpDiscs();
      plain = new Plain();
      calls = 0;
      switch (run % 8) {
        case 0: case 1: case 2: wildRun(); break;
        case 3: case 4: case 5: gameRun(); break;
        case 6: if (run % 32 == 6) rowRun(); break;
        default: scatterRun(); break;
      }
      if (!check.failed()) look();
    }
  }

  /** The runs are of use only if they come to what is rare. */
  private void wantMet() {
    for (String what : new String[] {"put: goes on", "put: over", "put: passed over", "shoot: 1", "shoot: 0", "shoot: -2",
        "blow: 0", "blow: -2", "time comes, ends left 5", "time comes, ends left 6", "over by time", "over by cup",
        "passed over", "one more, passed over", "over by time, passed over",
        "over by cup, two passed over", "rule: no", "rule: goes on", "rule: time is now", "best: no",
        "best: covers", "row: none wrong", "row: wrong", "row: full", "canBe: no", "canBe: none", "canBe: all",
        "canBe: some"}) {
      check.holds("met: " + what + " in " + met, met.getOrDefault(what, 0) > 0);
    }
  }

  public static void main(String[] args) {
    RandomRunsTest test = new RandomRunsTest();
    test.runAll(0, args.length > 0 ? Integer.parseInt(args[0]) : 800);
    if (!test.check.failed()) test.wantMet();
    if (args.length > 0) System.out.println(test.met);
    test.check.finish();
  }
}
