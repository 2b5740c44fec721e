/**
 * Each promise, worked out by hand. SEED 1 goes on to 48271, 182605794, 1291394886, 1914720637, 2078669041,
 * 407355683. A SMALL DISC aimed less than 8 away comes just where it is aimed, as m is 0.
 */
public final class PromisesTest extends Bench {
  private static void p1NewObject() {
    JumpDiscs x = new JumpDiscs();
    int[] baseX = {0, 40, 40, 0}, baseY = {0, 0, 40, 40};
    for (int d = 0; d < 16; d++) {
      due("where " + d, x.about(d, 0), 0);
      at(x, d, baseX[d % 4], baseY[d % 4]);
      due("free " + d, x.about(d, 3), 1);
      for (int w = 4; w <= 6; w++) due("about " + d + " " + w, x.about(d, w), 0);
    }
    due("turn", x.game(0), 0);
    due("turns gone", x.game(1), 0);
    due("rough", x.rule(0, 0), 0);
    due("run", x.rule(1, 0), 0);
    due("time", x.rule(2, 100), 100);
    due("seed is 1", x.shoot(0, 20, 20), 0);
    at(x, 0, 19, 22);
  }

  private static void p2Anew() {
    JumpDiscs x = ready();
    due("none gone", x.anew(), 0);
    x.rule(0, 1);
    x.rule(1, 2);
    x.rule(2, 10);
    x.write(0, 1, 1);
    x.keep();
    x.seen(0, 0, 0, 0, 0, 0, 0);
    for (int i = 0; i < 12; i++) due("shot", x.shoot(i % 4 + 4 * (i / 4), 30, 5 + 2 * i), 0);
    due("time is come", x.game(2), 5);
    x.put(12, 41, 41);
    due("anew", x.anew(), 12);
    due("all at base", x.count(0), 16);
    due("turn", x.game(0), 0);
    due("gone", x.game(1), 0);
    due("time not come", x.game(2), NONE);
    due("row stays", x.count(3), 1);
    due("kept stay", x.count(4), 1);
    due("scatter stays", x.scatter(0, 0, 2), 1);
    due("rough stays", x.rule(0, 0), 1);
    due("run stays", x.rule(1, 0), 2);
    due("time stays", x.rule(2, 11), 10);
    JumpDiscs y = new JumpDiscs();
    due("lies", y.shoot(0, 20, 20), 0);
    due("one gone", y.anew(), 1);
    due("the seed went on: 19, 20 is in the cup", y.shoot(0, 20, 20), 1);
    putAll(y, 1, 41, 41);
    due("over", y.game(3), 1);
    due("anew when over", y.anew(), 1);
    due("goes on", y.game(0), 0);
    due("pot of one, then anew", y.anew(), 0);
  }

  private static void p3Rule() {
    JumpDiscs x = ready();
    for (int w : new int[] {-1, 3, MIN, MAX}) due("what " + w, x.rule(w, 3), BAD);
    for (int w = 0; w <= 1; w++) {
      for (int v : new int[] {-1, 6, MIN, MAX}) due("rule " + w + " " + v, x.rule(w, v), BAD);
      due("to 5", x.rule(w, 5), 0);
      due("to 0", x.rule(w, 0), 5);
    }
    for (int v : new int[] {9, 401, 0, -1, MIN, MAX}) due("time " + v, x.rule(2, v), BAD);
    due("time 400", x.rule(2, 400), 100);
    due("time 10", x.rule(2, 10), 400);
    idle(x, 9);
    due("not come", x.game(2), NONE);
    idle(x, 3);
    due("come", x.game(2), 5);
    due("bad ahead of no", x.rule(2, 9), BAD);
    due("below those gone", x.rule(2, 11), NO);
    due("as it was", x.game(2), 5);
    idle(x, 8);
    due("rounds left", x.game(2), 3);
    due("just those gone: come, rounds stay", x.rule(2, 20), 10);
    due("rounds stay", x.game(2), 3);
    due("above", x.rule(2, 21), 20);
    due("not come any more", x.game(2), NONE);
    idle(x, 1);
    due("comes anew", x.game(2), 5);
    idle(x, 3);
    due("that round is none of five", x.game(2), 5);
    idle(x, 20);
    due("over", x.game(3), 1);
    due("none left", x.game(2), 0);
    due("equal: still over", x.rule(2, 44), 21);
    due("still over", x.game(0), NONE);
    due("above: goes on", x.rule(2, 45), 44);
    due("not over", x.game(3), 0);
    due("turn of", x.game(0), 0);
    due("not come", x.game(2), NONE);
  }

  private static void p3RuleTimeIsNow() {
    JumpDiscs x = ready();
    idle(x, 13);
    due("time is now", x.rule(2, 13), 100);
    due("five left", x.game(2), 5);
    idle(x, 3 + 19);
    due("goes on", x.game(3), 0);
    due("one left", x.game(2), 1);
    idle(x, 1);
    due("over", x.game(3), 1);
    putAll(x, 1, 41, 41);
    due("over by the cup too", x.rule(2, 400), 13);
    due("still over", x.game(3), 1);
    due("time not come", x.game(2), NONE);
    x.put(1, -1, -1);
    due("goes on", x.game(0), 0);
    JumpDiscs y = ready();
    y.rule(2, 10);
    idle(y, 32);
    due("over", y.game(3), 1);
    putAll(y, 0, 5, 5);
    y.put(9, 5, 5);
    y.rule(2, 400);
    due("0 is passed over when it goes on", y.game(0), 1);
  }

  private static void p4Seed() {
    JumpDiscs x = new JumpDiscs();
    for (int v : new int[] {0, -1, MIN, MAX}) due("seed " + v, x.seed(v), BAD);
    due("as it was", x.shoot(0, 20, 20), 0);
    at(x, 0, 19, 22);
    due("most", x.seed(2147483646), 0);
    x.put(1, 30, 10);
    // 2147435376, then 1964877853; by 7 they leave 2 and 1.
    due("a shot", x.shoot(1, 30, 34), 0);
    at(x, 1, 29, 32);
    due("least", x.seed(1), 0);
    due("a shot", x.shoot(2, 20, 20), 0);
    at(x, 2, 19, 22);
  }

  private static void p5Put() {
    JumpDiscs x = new JumpDiscs();
    for (int d : new int[] {-1, 16, MIN, MAX}) due("disc " + d, x.put(d, 3, 3), BAD);
    int[][] none = {{-1, 0}, {0, -1}, {41, 40}, {40, 41}, {41, -1}, {-1, 41}, {-2, -2}, {42, 42}, {MIN, MIN}, {MAX, MAX}};
    for (int[] p : none) due("place " + p[0] + ", " + p[1], x.put(0, p[0], p[1]), BAD);
    due("nothing changed", x.count(0), 16);
    due("corner", x.put(0, 0, 0), 0);
    due("lies", x.about(0, 0), 1);
    due("corner", x.put(1, 40, 40), 0);
    at(x, 1, 40, 40);
    due("by hand the cup takes it by its mark alone", x.put(2, 20, 20), 0);
    due("lies", x.about(2, 0), 1);
    due("cup", x.put(2, 41, 41), 0);
    due("in", x.about(2, 0), 2);
    at(x, 2, 41, 41);
    due("base", x.put(2, -1, -1), 0);
    due("at base", x.about(2, 0), 0);
    at(x, 2, 40, 40);
    due("no turn", x.game(1), 0);
    x.put(4, 0, 0);
    due("covered", x.about(0, 3), 0);
    x.put(0, 0, 0);
    due("put again: last of all", x.about(0, 4), 1 << 4);
    due("the other is covered", x.about(4, 5), 1);
    x.put(0, -1, -1);
    due("free again", x.about(4, 3), 1);
  }

  private static void p5PutPassesOver() {
    JumpDiscs x = ready();
    x.rule(2, 10);
    idle(x, 11);
    due("turn", x.game(0), 3);
    due("left", x.game(2), 5);
    putAll(x, 3, 5, 30);
    x.put(9, 5, 30);
    due("3 is passed over", x.game(0), 0);
    putAll(x, 0, 5, 10);
    due("0 has its last that lies", x.game(4), 1 << 12);
    x.put(13, 5, 10);
    due("0 is passed over", x.game(0), 1);
    due("no turn", x.game(1), 11);
    x.put(9, 30, 30);
    due("the turn does not go back", x.game(0), 1);
    // That no round was ended by put: this round's end and five more, of 1, 2 and 3 each.
    idle(x, 2);
    due("3", x.game(0), 3);
    due("left", x.game(2), 5);
    due("3's", x.shoot(15, 5, 30), 0);
    due("left", x.game(2), 5);
    due("0 is passed over", x.game(0), 1);
    x.put(3, 2, 38);
    idle(x, 14);
    due("goes on", x.game(3), 0);
    due("left", x.game(2), 1);
    idle(x, 1);
    due("over", x.game(3), 1);
    due("left", x.game(2), 0);
  }

  private static void p5PutEndsAndGoesOn() {
    JumpDiscs x = ready();
    idle(x, 1);
    putAll(x, 1, 41, 41);
    due("over", x.game(3), 1);
    due("turn", x.game(0), NONE);
    due("discs", x.game(4), 0);
    x.put(1, -1, -1);
    due("goes on: the turn stayed", x.game(0), 1);
    x.put(1, 41, 41);
    putAll(x, 2, 41, 41);
    x.put(1, 10, 10);
    due("still over", x.game(3), 1);
    x.put(0, 10, 10);
    x.put(2, -1, -1);
    due("goes on, 1 is passed over", x.game(0), 2);
    JumpDiscs y = new JumpDiscs();
    for (int d = 0; d < 16; d++) y.put(d, 41, 41);
    due("none has a free disc", y.game(3), 1);
    due("blow", y.blow(0), NO);
  }

  private static void p6About() {
    JumpDiscs x = new JumpDiscs();
    for (int d : new int[] {-1, 16, MIN, MAX}) due("disc " + d, x.about(d, 0), BAD);
    for (int w : new int[] {-1, 7, MIN, MAX}) due("what " + w, x.about(0, w), BAD);
    x.put(0, 10, 10);
    x.put(1, 12, 10);
    due("two small: 4 is not below 4", x.about(1, 4), 0);
    x.put(1, 11, 11);
    due("2 is", x.about(1, 4), 1);
    x.put(8, 12, 12);
    due("small and large: 8 is below 9", x.about(8, 4), 3);
    x.put(8, 13, 10);
    due("9 is not; over 1: 5 is", x.about(8, 4), 2);
    x.put(9, 17, 10);
    due("two large: 16 is not", x.about(9, 4), 0);
    x.put(9, 16, 12);
    due("13 is", x.about(9, 4), 1 << 8);
    due("a pile by way of others", x.about(0, 6), 1 | 2 | 1 << 8 | 1 << 9);
    due("the same", x.about(9, 6), x.about(0, 6));
    due("covered", x.about(8, 5), 1 << 9);
    due("not free", x.about(8, 3), 0);
    due("free", x.about(9, 3), 1);
    x.put(1, 30, 30);
    due("the pile falls apart", x.about(0, 6), 1);
    due("the rest", x.about(8, 6), 1 << 8 | 1 << 9);
    x.put(8, 41, 41);
    due("in the cup", x.about(8, 0), 2);
    for (int w = 3; w <= 6; w++) due("in the cup " + w, x.about(8, w), 0);
    due("free of it", x.about(9, 4), 0);
    // A chain told from its far end, with numbers up and down.
    int[] chain = {3, 15, 2, 14, 6, 10};
    for (int i = 0; i < chain.length; i++) x.put(chain[i], 2 * i + 20, 3);
    due("chain", x.about(3, 6), 1 << 3 | 1 << 15 | 1 << 2 | 1 << 14 | 1 << 6 | 1 << 10);
  }

  private static void p7ShootRefused() {
    JumpDiscs x = ready();
    for (int d : new int[] {-1, 16, MIN, MAX}) due("disc " + d, x.shoot(d, 3, 3), BAD);
    int[][] none = {{-1, 0}, {0, -1}, {41, 0}, {0, 41}, {-1, -1}, {41, 41}, {MIN, 0}, {0, MAX}};
    for (int[] p : none) due("aim " + p[0] + ", " + p[1], x.shoot(0, p[0], p[1]), BAD);
    due("bad ahead of no", x.shoot(1, 41, 3), BAD);
    for (int d = 0; d < 16; d++) if (d % 4 != 0) due("not of the player " + d, x.shoot(d, 3, 3), NO);
    x.put(5, 2, 2);
    due("not free", x.shoot(0, 3, 3), NO);
    x.put(4, 41, 41);
    due("in the cup", x.shoot(4, 3, 3), NO);
    due("no turn gone", x.game(1), 0);
    putAll(x, 2, 41, 41);
    due("over", x.shoot(8, 3, 3), NO);
    x.put(2, 38, 38);
    x.put(0, 10, 10);
    due("no seed was drawn", x.shoot(0, 10, 18), 0);
    at(x, 0, 10, 17);
  }

  private static void p7ShootSpreads() {
    JumpDiscs x = new JumpDiscs();
    int[][] told = { // disc, from, aim, rough, comes to
        {0, 10, 10, 17, 10, 0, 17, 10}, {0, 10, 10, 18, 10, 0, 18, 9}, {0, 10, 10, 11, 18, 0, 11, 17},
        {0, 10, 10, 2, 2, 0, 2, 1}, {8, 10, 10, 10, 10, 0, 10, 9}, {8, 10, 10, 10, 10, 5, 6, 11},
        {0, 10, 10, 10, 10, 5, 8, 13}, {8, 40, 40, 0, 0, 5, 6, 0}, {0, 10, 10, 26, 5, 0, 25, 7}};
    for (int[] t : told) {
      x.anew();
      x.seed(1);
      x.rule(0, t[5]);
      x.put(t[0], t[1], t[2]);
      due("lies", x.shoot(t[0], t[3], t[4]), 0);
      at(x, t[0], t[6], t[7]);
      due("turn", x.game(0), 1);
    }
    x.anew();
    x.seed(1);
    x.rule(0, 0);
    x.put(0, 10, 10);
    x.put(9, 30, 30);
    due("m is 0", x.shoot(0, 10, 10), 0);
    due("seed goes on twice all the same: 1291394886 and 1914720637 by 3", x.shoot(9, 30, 30), 0);
    at(x, 9, 29, 30);
  }

  private static void p7ShootRunsAndCup() {
    JumpDiscs x = new JumpDiscs();
    int[][] told = { // from, aim, run, answer, comes to
        {10, 10, 15, 10, 3, 0, 18, 10}, {10, 10, 15, 6, 3, 0, 18, 3}, {10, 10, 6, 12, 5, 0, 1, 17},
        {10, 10, 10, 10, 5, 0, 10, 10}, {10, 10, 10, 9, 5, 0, 10, 4}, {38, 1, 40, 0, 5, 0, 40, 0},
        {2, 38, 1, 39, 4, 0, 0, 40}, {17, 17, 19, 19, 5, 1, 41, 41}, {14, 20, 17, 20, 3, 0, 20, 20},
        {20, 25, 20, 22, 0, 1, 41, 41}, {20, 25, 18, 20, 1, 1, 41, 41}, {20, 25, 22, 21, 0, 0, 22, 21},
        {20, 25, 21, 21, 0, 1, 41, 41}, {20, 25, 19, 22, 0, 0, 19, 22}, {20, 25, 20, 23, 0, 0, 20, 23},
        {15, 15, 20, 18, 0, 1, 41, 41}, {15, 15, 21, 18, 0, 0, 21, 18}};
    for (int[] t : told) {
      x.anew();
      x.rule(1, t[4]);
      x.put(0, t[0], t[1]);
      due("from " + t[0] + ", " + t[1] + " at " + t[2] + ", " + t[3], x.shoot(0, t[2], t[3]), t[5]);
      at(x, 0, t[6], t[7]);
      due("who pots has one more", x.game(0), 1 - t[5]);
      due("one gone", x.game(1), 1);
    }
  }

  /** All by 11, as ROUGH is 5: which way it runs is told by the aim, not by where it came down. */
  private static void p7ShootRunsFromWhereItCameDown() {
    int[][] told = { // seed, comes to
        {2, 38, 10}, // 96542 leaves 6, 365211588 leaves 5: down at 40, 10
        {5, 36, 12}, // 241355 leaves 4, 913028970 leaves 7: down at 38, 12
        {7, 40, 6}}; // 337897 leaves 10, 1278240558 leaves 1: down at 44, 6, runs to 42, 6: beyond the mat
    for (int[] t : told) {
      JumpDiscs x = new JumpDiscs();
      x.seed(t[0]);
      x.rule(0, 5);
      x.rule(1, 2);
      x.put(0, 40, 10);
      due("seed " + t[0], x.shoot(0, 39, 10), 0);
      at(x, 0, t[1], t[2]);
    }
  }

  private static void p7ShootLiesLast() {
    JumpDiscs x = ready();
    x.put(0, 36, 2);
    due("jumps on 1", x.shoot(0, 37, 2), 0);
    due("covers it", x.about(0, 4), 2);
    due("1 has others", x.game(4), 1 << 5 | 1 << 9 | 1 << 13);
    due("covered: no", x.shoot(1, 38, 2), NO);
    x.put(5, 36, 2);
    due("jumps on both", x.shoot(5, 37, 2), 0);
    due("covers both", x.about(5, 4), 3);
    due("0 covers still", x.about(0, 4), 2);
    idle(x, 2);
    x.put(0, 36, 2);
    due("away again", x.shoot(0, 30, 2), 0);
    due("1 is covered by 5 alone", x.about(1, 5), 1 << 5);
  }

  private static void p8Blow() {
    JumpDiscs x = new JumpDiscs();
    for (int d : new int[] {-1, 16, MIN, MAX}) due("disc " + d, x.blow(d), BAD);
    due("at base", x.blow(0), NO);
    x.put(0, 10, 10);
    due("alone", x.blow(0), NO);
    x.put(1, 11, 10);
    due("not free", x.blow(0), NO);
    due("not of the player", x.blow(1), NO);
    x.put(4, 10, 11);
    x.rule(0, 5);
    x.rule(1, 5);
    due("blown", x.blow(4), 1 | 2 | 1 << 4);
    at(x, 0, 13, 7);
    at(x, 1, 13, 11);
    at(x, 4, 8, 8);
    due("a turn", x.game(1), 1);
    due("of the next", x.game(0), 1);
    x.anew();
    x.seed(1);
    x.put(0, 0, 0);
    x.put(4, 0, 0);
    due("at the corner", x.blow(4), 1 | 1 << 4);
    at(x, 0, 3, 0);
    at(x, 4, 2, 1);
    due("4 lies last", x.about(4, 4), 1);
    x.anew();
    x.seed(1);
    x.put(0, 17, 23);
    x.put(4, 17, 23);
    x.put(8, 41, 41);
    due("in the cup", x.blow(8), NO);
    due("no cup", x.blow(4), 1 | 1 << 4);
    at(x, 0, 20, 20);
    due("lies", x.about(0, 0), 1);
    due("no turn more", x.game(0), 1);
    x.put(0, 17, 23);
    x.put(1, 17, 23);
    putAll(x, 3, 41, 41);
    due("over", x.blow(1), NO);
    due("bad ahead of it", x.blow(16), BAD);
  }

  private static void p8BlowByNumbers() {
    JumpDiscs x = new JumpDiscs();
    x.put(8, 40, 40);
    x.put(4, 40, 40);
    x.put(0, 40, 40);
    due("by 0, last of all", x.blow(0), 1 | 1 << 4 | 1 << 8);
    // 0: +3, -3; 4: +2, +1; 8: -2, -3.
    at(x, 0, 40, 37);
    at(x, 4, 40, 40);
    at(x, 8, 38, 37);
    due("8 came last", x.about(8, 4), 1);
    due("0 is covered", x.about(0, 5), 1 << 8);
  }

  private static void p9GameTime() {
    JumpDiscs x = ready();
    for (int w : new int[] {-1, 5, MIN, MAX}) due("what " + w, x.game(w), BAD);
    for (int time = 10; time <= 14; time++) {
      x = ready();
      x.rule(2, time);
      int roundComes = (time + 3) / 4 * 4;
      for (int gone = 0; gone < roundComes + 20; gone++) {
        due("turn", x.game(0), gone % 4);
        due("gone", x.game(1), gone);
        due("time " + time + ", left behind " + gone, x.game(2),
            gone < time ? NONE : gone < roundComes ? 5 : 5 - (gone - roundComes) / 4);
        due("not over", x.game(3), 0);
        due("discs", x.game(4), 0x1111 << gone % 4);
        idle(x, 1);
      }
      due("time " + time + " over", x.game(3), 1);
      due("turn", x.game(0), NONE);
      due("left", x.game(2), 0);
      due("discs", x.game(4), 0);
      due("gone", x.game(1), roundComes + 20);
      due("no shot", x.shoot(0, 2, 2), NO);
    }
  }

  private static void p9GamePassedOver() {
    JumpDiscs x = ready();
    x.rule(2, 10);
    putAll(x, 0, 5, 30);
    x.put(9, 5, 30);
    due("0 is passed over", x.game(0), 1);
    idle(x, 9);
    due("a turn passed over is none", x.game(1), 9);
    due("turn", x.game(0), 1);
    due("not come", x.game(2), NONE);
    idle(x, 3);
    due("the round ends at 0 though it is passed over", x.game(0), 1);
    due("left", x.game(2), 5);
    idle(x, 14);
    due("left", x.game(2), 1);
    idle(x, 1);
    due("over", x.game(3), 1);
  }

  private static void p9GameOneMore() {
    JumpDiscs x = ready();
    x.rule(2, 10);
    idle(x, 3);
    x.put(3, 20, 23);
    due("pots", x.shoot(3, 20, 22), 1);
    due("one more", x.game(0), 3);
    due("one more is one", x.game(1), 4);
    x.put(7, 20, 23);
    due("pots", x.shoot(7, 20, 22), 1);
    due("one more", x.game(0), 3);
    x.put(11, 3, 30);
    x.put(3, 20, 23);
    x.put(15, 3, 30);
    x.put(4, 3, 30);
    due("discs", x.game(4), 1 << 3);
    due("pots its last free one", x.shoot(3, 20, 22), 1);
    due("passed over though it has one more", x.game(0), 0);
    due("gone", x.game(1), 6);
    idle(x, 4);
    due("0, 1, 2 and 0: come", x.game(1), 10);
    due("turn", x.game(0), 1);
    due("left", x.game(2), 5);
    idle(x, 2);
    due("ended from 2 by way of 3, passed over", x.game(0), 0);
    due("left", x.game(2), 5);
    idle(x, 3);
    due("left", x.game(2), 4);
  }

  private static void p9GameAllIn() {
    JumpDiscs x = ready();
    idle(x, 1);
    x.put(5, 41, 41);
    x.put(9, 41, 41);
    x.put(13, 41, 41);
    x.put(1, 20, 23);
    due("pots the last of all", x.shoot(1, 20, 22), 1);
    due("over", x.game(3), 1);
    due("turn", x.game(0), NONE);
    due("gone", x.game(1), 2);
    due("time not come", x.game(2), NONE);
    due("discs", x.game(4), 0);
    x.put(13, -1, -1);
    due("it was passed over, though the game was over", x.game(0), 2);
  }

  /** Player 3 has one DISC that is not in THE CUP, 3 at 20, 23, from where it POTS. */
  private static JumpDiscs readyForTheLastPot(int turnsAhead) {
    JumpDiscs x = ready();
    x.rule(2, 10);
    idle(x, turnsAhead);
    for (int d = 7; d < 16; d += 4) x.put(d, 41, 41);
    x.put(3, 20, 23);
    return x;
  }

  private static void p9GameTurnBehindTheLastPot() {
    JumpDiscs x = readyForTheLastPot(3);
    putAll(x, 0, 5, 30);
    x.put(9, 5, 30);
    due("pots its last", x.shoot(3, 20, 22), 1);
    due("over", x.game(3), 1);
    // While it is over the TURN stays where the SHOT brought it, whoever is FREE again or COVERED.
    x.put(9, 30, 5);
    x.put(3, -1, -1);
    due("3 and 0 were passed over", x.game(0), 1);
    JumpDiscs y = readyForTheLastPot(11);
    due("time is come", y.game(2), 5);
    due("pots its last", y.shoot(3, 20, 22), 1);
    due("the round in which it came ended", y.game(2), 5);
    y.put(3, -1, -1);
    due("turn", y.game(0), 0);
    idle(y, 4);
    due("one of five ended", y.game(2), 4);
    JumpDiscs z = readyForTheLastPot(31);
    due("one is left", z.game(2), 1);
    due("pots its last", z.shoot(3, 20, 22), 1);
    due("the last round ended too", z.game(2), 0);
    z.put(3, -1, -1);
    due("over by time as well", z.game(3), 1);
    z.rule(2, 400);
    due("goes on", z.game(0), 0);
  }

  private static void p9GameTurnBehindTheLastRound() {
    JumpDiscs x = ready();
    x.rule(2, 10);
    idle(x, 31);
    putAll(x, 0, 5, 30);
    x.put(9, 5, 30);
    due("3's, the last of the last round", x.shoot(3, 2, 38), 0);
    due("over", x.game(3), 1);
    x.put(9, 30, 5);
    x.rule(2, 400);
    due("0 was passed over by the shot, though the game was over", x.game(0), 1);
    JumpDiscs y = ready();
    y.rule(2, 10);
    idle(y, 31);
    y.put(7, 2, 38);
    putAll(y, 0, 20, 4);
    putAll(y, 1, 20, 4);
    y.put(2, 20, 4);
    due("blown", y.blow(7), 1 << 3 | 1 << 7);
    due("over", y.game(3), 1);
    y.put(2, 38, 38);
    putAll(y, 0, 2, 2);
    y.rule(2, 400);
    due("0 and 1 were passed over by the blow", y.game(0), 2);
  }

  private static void p10Score() {
    JumpDiscs x = new JumpDiscs();
    for (int p : new int[] {-1, 4, MIN, MAX}) due("player " + p, x.score(p), BAD);
    due("base counts nothing", x.score(0), 0);
    x.put(0, 5, 5);
    due("lies free", x.score(0), 1);
    x.put(4, 41, 41);
    due("and one in", x.score(0), 4);
    x.put(1, 5, 5);
    due("covered", x.score(0), 3);
    due("that covers", x.score(1), 1);
    x.put(8, 5, 5);
    due("two lie, one is free", x.score(0), 4);
    putAll(x, 2, 41, 41);
    due("all in", x.score(2), 12);
    due("3", x.score(3), 0);
  }

  private static void p11Twelfths() {
    JumpDiscs x = new JumpDiscs();
    for (int p : new int[] {-1, 4, MIN, MAX}) due("player " + p, x.twelfths(p), BAD);
    places(x, 21, 21, 21, 21);
    x.put(2, 5, 5);
    places(x, 12, 12, 48, 12);
    x.put(1, 41, 41);
    places(x, 6, 48, 24, 6);
    x.put(0, 15, 5);
    places(x, 18, 48, 18, 0);
    x.put(3, 25, 5);
    places(x, 12, 48, 12, 12);
    x.put(7, 35, 5);
    places(x, 6, 48, 6, 24);
    x.put(4, 35, 35);
    places(x, 18, 48, 0, 18);
    x.put(2, 41, 41);
    places(x, 6, 36, 36, 6);
    x.put(7, 41, 41);
    places(x, 0, 18, 18, 48);
    x.put(0, 41, 41);
    places(x, 36, 6, 6, 36);
    x.put(4, 41, 41);
    places(x, 48, 6, 6, 24);
    x.put(5, 35, 15);
    places(x, 48, 18, 0, 18);
    x.put(9, 25, 15);
    places(x, 48, 24, 0, 12);
    x.put(9, -1, -1);
    x.put(6, 35, 25);
    x.put(3, 41, 41);
    places(x, 36, 6, 6, 36);
    x.put(5, 41, 41);
    places(x, 28, 28, 0, 28);
  }

  private static void places(JumpDiscs x, int... want) {
    for (int p = 0; p < 4; p++) due("twelfths of " + p, x.twelfths(p), want[p]);
    due("points of 0", x.points(0), want[0] + want[2]);
    due("points of 1", x.points(1), want[1] + want[3]);
  }

  private static void p12Points() {
    JumpDiscs x = new JumpDiscs();
    for (int s : new int[] {-1, 2, MIN, MAX}) due("side " + s, x.points(s), BAD);
    putAll(x, 3, 41, 41);
    due("3 all in: 12 and 48 and 12", x.points(1), 72);
    due("12 and 12 less 12", x.points(0), 12);
    putAll(x, 1, 41, 41);
    due("both all in: 36 and 36 and 24", x.points(1), 96);
    due("6 and 6 less 24", x.points(0), -12);
    putAll(x, 0, 41, 41);
    due("0 too: 28 twice, 24 less 12", x.points(1), 68);
    due("28 and 0 and 12 less 24", x.points(0), 16);
  }

  private static void p13Chance() {
    JumpDiscs x = ready();
    for (int d : new int[] {-1, 16, MIN, MAX}) due("disc " + d, x.chance(d, -1), BAD);
    for (int d : new int[] {-2, 16, MIN, MAX}) due("aim " + d, x.chance(0, d), BAD);
    due("pot from base", x.chance(4, -1), 16);
    due("pot from 2, 2", x.chance(0, -1), 18);
    due("itself", x.chance(0, 0), NO);
    due("the aim is at base", x.chance(0, 5), NO);
    x.put(5, 41, 41);
    due("the aim is in", x.chance(0, 5), NO);
    due("it is in", x.chance(5, 0), NO);
    due("it is in: pot", x.chance(5, -1), NO);
    due("bad ahead of no", x.chance(5, 16), BAD);
    x.put(0, 20, 20);
    due("from the cup's place", x.chance(0, -1), 36);
    x.put(1, 25, 22);
    due("small: 36 less 10", x.chance(0, 1), 26);
    due("large from base of 0: 36 less 25", x.chance(8, 1), 11);
    due("small from base of 0", x.chance(4, 1), 1);
    x.put(8, 20, 39);
    due("large: 36 less 17", x.chance(8, 1), 19);
    x.put(8, 0, 0);
    x.put(1, 35, 0);
    due("large, 35 away", x.chance(8, 1), 1);
    x.put(1, 40, 0);
    due("large, 40 away", x.chance(8, 1), 1);
    x.put(0, 23, 0);
    due("small, 17 away", x.chance(0, 1), 2);
    x.put(0, 22, 0);
    due("small, 18 away", x.chance(0, 1), 1);
    due("one of the own side", x.chance(0, 2), 1);
    x.put(9, 22, 0);
    due("it is covered", x.chance(0, 1), 1);
    due("the aim is covered", x.chance(9, 0), 36);
  }

  private static void p14Best() {
    JumpDiscs x = ready();
    for (int p : new int[] {-1, 4, MIN, MAX}) due("player " + p, x.best(p, 0), -100);
    for (int w : new int[] {-1, 3, MIN, MAX}) due("what " + w, x.best(0, w), -100);
    best(x, 0, 4, -1, 48);
    x.put(0, 10, 10);
    x.put(4, 12, 12);
    best(x, 0, 4, -1, 56);
    x.put(1, 14, 14);
    // 4 on 1: 36 less 4, by 2, as 1 lies 6 from the cup: 64 above 56.
    best(x, 0, 4, 1, 64);
    x.put(1, 13, 14);
    best(x, 0, 4, -1, 56);
    x.put(5, 13, 14);
    best(x, 0, 4, -1, 56);
    x.put(0, 14, 14);
    x.put(3, 15, 14);
    // 3 covers 0 of the own side, lies 5 from the cup: 36 less 6, by 3.
    best(x, 0, 4, 3, 90);
    x.put(2, 15, 14);
    // Now 2 of the own side covers 3, and no aim is left; 2 itself lies 6 from the cup: 30 by 2.
    best(x, 0, 4, -1, 56);
    best(x, 2, 2, -1, 60);
    x.put(4, 41, 41);
    best(x, 0, 8, -1, 48);
    putAll(x, 0, 41, 41);
    due("none free", x.best(0, 0), -102);
    due("none free", x.best(0, 2), -102);
    due("bad ahead", x.best(0, 3), -100);
    due("others are told though it is over", x.best(2, 2), 60);
  }

  private static void p14BestOfSeveral() {
    JumpDiscs x = new JumpDiscs();
    best(x, 3, 3, -1, 48);
    x.put(3, 41, 41);
    best(x, 3, 7, -1, 48);
    // From 8, 20: POT 24 by 2; on 0 at 14, 20: 36 less 12, by 2: alike, POT is first.
    x.put(7, 8, 20);
    x.put(0, 14, 20);
    best(x, 3, 7, -1, 48);
    // From 9, 20: POT 25 by 2; on 0 and on 2, 5 away, 26 by 2: 0 is first.
    x.put(0, 14, 18);
    x.put(2, 14, 22);
    x.put(7, 9, 20);
    best(x, 3, 7, 0, 52);
    // 11, LARGE, 10 away is alike: 36 less 10, by 2.
    x.put(11, 4, 20);
    best(x, 3, 7, 0, 52);
    x.put(11, 5, 20);
    best(x, 3, 11, 0, 54);
    // What an aim covers: three of the own side, one of the other.
    JumpDiscs y = new JumpDiscs();
    y.put(0, 5, 5);
    y.put(4, 5, 5);
    y.put(6, 5, 6);
    y.put(5, 5, 4);
    y.put(9, 5, 5);
    y.put(8, 12, 5);
    best(y, 0, 12, 9, 31 * 4);
    y.put(12, 41, 41);
    best(y, 0, 8, 9, 29 * 4);
    best(y, 2, 2, -1, 48);
    // 8 covers 1 and 13 of 3's side, and 2 of its own.
    y.put(1, 12, 36);
    y.put(13, 12, 36);
    y.put(2, 12, 36);
    y.put(8, 12, 36);
    best(y, 3, 11, 8, 24 * 3);
  }

  private static void best(JumpDiscs x, int player, int disc, int aim, int worth) {
    due("best of " + player, x.best(player, 0), disc);
    due("aim of " + player, x.best(player, 1), aim);
    due("worth of " + player, x.best(player, 2), worth);
  }

  private static void p15Ahead() {
    JumpDiscs x = new JumpDiscs();
    due("all alike", x.ahead(), 0);
    x.put(5, 20, 23);
    // 1: POT 33 by 2. 0: 48, as 5 is far off.
    due("48 less 66", x.ahead(), -18);
    x.put(0, 20, 26);
    // 0 on 5: 36 less 6, by 2 = 60, POT 30 by 2 = 60; 1 has 66.
    due("60 less 66", x.ahead(), -6);
    putAll(x, 1, 30, 30);
    x.put(8, 30, 30);
    // 1 is passed over: 2 has 48; 8 covers 13, 1's: 0's best is 60.
    due("60 less 48", x.ahead(), 12);
    putAll(x, 2, 30, 35);
    x.put(12, 30, 35);
    putAll(x, 3, 25, 35);
    x.put(4, 25, 35);
    due("the same player", x.ahead(), 0);
    putAll(x, 3, 41, 41);
    due("over", x.ahead(), -10002);
    JumpDiscs y = ready();
    y.rule(2, 10);
    idle(y, 31);
    y.put(3, 20, 30);
    // 3 has 26 by 2; 0 at base 48 though the time would be over: as the board is.
    due("the last turn", y.ahead(), 4);
    y.put(3, 2, 38);
    idle(y, 1);
    due("over by time", y.ahead(), -10002);
  }

  private static void p16Write() {
    JumpDiscs x = new JumpDiscs();
    for (int d : new int[] {-1, 16, MIN, MAX}) due("disc " + d, x.write(d, 3, 3), BAD);
    int[][] none = {{-1, 0}, {0, -1}, {41, 40}, {40, 41}, {41, -1}, {-1, 41}, {-2, -2}, {42, 42}, {MIN, MIN}, {MAX, MAX}};
    for (int[] p : none) due("place " + p[0] + ", " + p[1], x.write(0, p[0], p[1]), BAD);
    due("none", x.count(3), 0);
    due("wrong ones are written too", x.write(15, 40, 40), 1);
    due("a gap", x.write(0, -1, -1), 2);
    due("the cup", x.write(0, 41, 41), 3);
    for (int i = 4; i <= 24; i++) due("write", x.write(i % 16, 0, 0), i);
    due("full", x.write(0, 0, 0), FULL);
    due("bad ahead of full", x.write(16, 0, 0), BAD);
    due("24", x.count(3), 24);
    due("the board is as it was", x.count(0), 16);
  }

  private static void p17Wipe() {
    JumpDiscs x = new JumpDiscs();
    due("none", x.wipe(), 0);
    row(x, 0, 1, 1, 1, 41, 41);
    due("two", x.wipe(), 2);
    due("none any more", x.count(3), 0);
    due("none wrong", x.wrong(), NONE);
    due("anew from the first", x.write(1, 1, 1), 1);
    due("wrong", x.wrong(), 0);
  }

  private static void wrongOf(int want, int... shots) {
    JumpDiscs x = new JumpDiscs();
    x.put(0, 41, 41);
    row(x, shots);
    due("row of " + shots.length / 3, x.wrong(), want);
    due("the board is as it was", x.count(0), 15);
  }

  private static void p18Wrong() {
    wrongOf(NONE);
    wrongOf(NONE, 0, 1, 1);
    wrongOf(0, 1, 1, 1);
    wrongOf(1, 0, 1, 1, 2, 5, 5);
    wrongOf(NONE, 0, 1, 1, 1, 5, 5, 2, 9, 9, 3, 13, 13, 0, 17, 17);
    wrongOf(NONE, 0, 41, 41, 4, 5, 5, 1, 9, 9);
    wrongOf(1, 0, 41, 41, 1, 5, 5);
    wrongOf(1, 0, 41, 41, 0, 5, 5);
    wrongOf(4, 0, 1, 1, 1, 1, 1, 2, 9, 9, 3, 13, 13, 0, 17, 17);
    wrongOf(NONE, 0, 1, 1, 1, 1, 3, 2, 9, 9, 3, 13, 13, 0, 17, 17);
    wrongOf(NONE, 0, 20, 20, 1, 5, 5);
    wrongOf(3, 0, 41, 41, 4, 41, 41, 8, 41, 41, 1, 5, 5);
    wrongOf(4, 0, 41, 41, 4, 41, 41, 8, 41, 41, 12, 41, 41, 1, 5, 5);
    wrongOf(NONE, 0, 41, 41, 4, 41, 41, 8, 41, 41, 12, 41, 41);
    // Gaps: two of them cover neither one another nor what lies.
    wrongOf(NONE, 0, -1, -1, 1, -1, -1, 2, -1, -1, 3, -1, -1, 0, 5, 5);
    wrongOf(NONE, 0, -1, -1, 1, 5, 5, 2, 9, 9, 3, 5, 5, 0, 5, 5);
    wrongOf(1, 0, -1, -1, 0, 5, 5);
    wrongOf(5, 0, 5, 5, 1, -1, -1, 2, 9, 9, 3, 5, 5, 4, 5, 5, 2, 2, 2);
    wrongOf(4, 0, 5, 5, 1, -1, -1, 2, 9, 9, 3, 5, 5, 0, 5, 5);
    wrongOf(NONE, 0, 5, 5, 1, -1, -1, 2, 9, 9, 3, 15, 5, 0, 5, 15, 1, 30, 30);
    wrongOf(NONE, 0, 5, 5, 1, 5, 5, 2, 9, 9, 3, 15, 5, 4, 5, 15, 1, 30, 30, 2, 9, 9, 3, 15, 5, 0, 5, 5);
  }

  private static void p18WrongByTime() {
    JumpDiscs x = new JumpDiscs();
    // 0 lays all its discs on one heap and is covered by 9: passed over from the fourth round on.
    int[] laid = {0, 5, 5, 1, 30, 5, 2, 30, 15, 3, 30, 25, 4, 5, 5, 1, 30, 5, 2, 30, 15, 3, 30, 25, 8, 5, 5, 1, 30, 5,
        2, 30, 15, 3, 30, 25, 12, 5, 5, 9, 5, 5};
    row(x, laid);
    due("14 could be", x.wrong(), NONE);
    row(x, 2, 30, 15, 3, 30, 25);
    due("16", x.wrong(), NONE);
    x.write(0, 5, 5);
    due("0 is passed over", x.wrong(), 16);
    x.wipe();
    row(x, laid);
    row(x, 2, 41, 41, 6, 41, 41, 10, 41, 41, 14, 41, 41);
    due("2 has all in", x.wrong(), NONE);
    x.write(3, 30, 25);
    due("over", x.wrong(), 18);
    timeInRow();
  }

  private static void timeInRow() {
    JumpDiscs x = new JumpDiscs();
    x.rule(2, 10);
    row(x, ROUNDS_OF_ONE);
    due("16", x.wrong(), NONE);
    row(x, 1, 30, 30, 1, 30, 30, 1, 30, 30);
    due("19", x.wrong(), NONE);
    x.write(1, 30, 30);
    due("the twentieth: the game was over", x.wrong(), 19);
    x.rule(2, 20);
    due("by the time as it is", x.wrong(), NONE);
    x.rule(2, 13);
    due("come with the thirteenth, which ends its round", x.wrong(), 19);
    x.rule(2, 14);
    due("come with the fourteenth: a round more", x.wrong(), NONE);
    x.write(1, 30, 30);
    due("the twenty-first", x.wrong(), 20);
  }

  private static void p19CanBe() {
    JumpDiscs x = new JumpDiscs();
    for (int w : new int[] {-1, 2, MIN, MAX}) due("what " + w, x.canBe(w), BAD);
    due("no row", x.canBe(0), NO);
    x.write(0, 5, 5);
    due("no gap", x.canBe(1), NO);
    x.write(1, -1, -1);
    due("all and the cup", x.canBe(0), 1682);
    due("first", x.canBe(1), 0);
    x.write(1, -1, -1);
    due("two gaps", x.canBe(0), NO);
    x.wipe();
    row(x, 0, -1, -1, 1, 5, 5);
    due("all but the cup", x.canBe(0), 1681);
    x.wipe();
    row(x, 0, -1, -1, 4, 5, 5);
    due("the cup alone", x.canBe(0), 1);
    due("the cup", x.canBe(1), 4141);
    x.wipe();
    row(x, 0, -1, -1, 0, 5, 5);
    due("none", x.canBe(0), 0);
    due("none", x.canBe(1), NONE);
    x.wipe();
    row(x, 1, -1, -1);
    due("wrong itself", x.canBe(0), 0);
    x.wipe();
    row(x, 1, 5, 5, 0, -1, -1);
    due("wrong ahead of it", x.canBe(0), 0);
  }

  private static void p19CanBeCovers() {
    JumpDiscs x = new JumpDiscs();
    // 1's gap may not lie where 9, LARGE, at 0, 0 covers it: below 9 are 9 places of the corner.
    row(x, 0, 30, 30, 1, -1, -1, 2, 35, 35, 3, 35, 5, 0, 30, 30, 9, 0, 0, 2, 35, 35, 3, 35, 5, 0, 30, 30, 1, 10, 10);
    // Nor where 0, 2 or 3 cover it: below 4 are 9 places each. It may not pot, as 2 is next.
    due("1681 less 9 less 27", x.canBe(0), 1645);
    due("first: 0, 3", x.canBe(1), 3);
    x.wipe();
    row(x, 0, 6, 6, 1, -1, -1, 2, 30, 10, 3, 10, 30, 0, 20, 20);
    due("all but the 9 that cover 0, as it is shot again", x.canBe(0), 1681 - 9);
    x.wipe();
    row(x, 0, 0, 0, 1, -1, -1, 2, 30, 10, 3, 10, 30, 0, 20, 20);
    due("all but 4 of the corner", x.canBe(0), 1681 - 4);
    due("first", x.canBe(1), 2);
    x.wipe();
    row(x, 8, 9, 9, 9, -1, -1, 2, 30, 10, 3, 10, 30, 8, 20, 20);
    due("two large: below 16 are 45 places", x.canBe(0), 1681 - 45);
    x.wipe();
    row(x, 0, 41, 41, 4, 41, 41, 8, 41, 41, 12, 20, 30, 1, -1, -1, 2, 20, 20, 3, 5, 5, 1, 30, 30);
    // 1 is next behind 3 only if 0 is passed over: if 1 covers 12, its last, at 20, 30: below 9 are 25 places.
    due("places that hold 0 down and are not held down by 2 or 3", x.canBe(0), 25);
    due("first of them", x.canBe(1), 1828);
  }

  /** What was found is found anew when the row or the time is another. */
  private static void p19CanBeAnew() {
    JumpDiscs x = new JumpDiscs();
    row(x, 0, -1, -1);
    due("all and the cup", x.canBe(0), 1682);
    due("the same again", x.canBe(0), 1682);
    row(x, 1, 5, 5);
    due("all", x.canBe(0), 1681);
    row(x, 2, 9, 9, 3, 15, 15, 0, 20, 20);
    due("where 1, 2, 3 do not lie", x.canBe(0), 1681 - 27);
    x.wipe();
    row(x, 0, -1, -1);
    due("all and the cup", x.canBe(0), 1682);
    x.wipe();
    row(x, 0, -1, -1, 4, 41, 41);
    due("the cup alone", x.canBe(1), 4141);
    x.wipe();
    x.rule(2, 10);
    row(x, ROUNDS_OF_ONE);
    row(x, 1, -1, -1, 5, 15, 5, 5, 15, 5);
    // 1 may not hold 5 down; if it pots, it has one more, and the round is longer by one.
    due("all but 9, and the cup", x.canBe(0), 1681 - 9 + 1);
    row(x, 5, 15, 5);
    due("over but with the turn more", x.canBe(0), 1);
    due("the cup", x.canBe(1), 4141);
    x.rule(2, 20);
    due("by the time as it is", x.canBe(0), 1681 - 9 + 1);
    x.rule(2, 10);
    due("and back", x.canBe(0), 1);
    row(x, 5, 15, 5);
    due("over with it too", x.canBe(0), 0);
  }

  private static void p20Seen() {
    JumpDiscs x = new JumpDiscs();
    for (int p : new int[] {-1, 4, MIN, MAX}) due("player " + p, x.seen(p, 0, 0, 0, 0, 0, 0), BAD);
    for (int i = 0; i < 6; i++) {
      for (int v : new int[] {-1, 41, MIN, MAX}) {
        int[] a = new int[6];
        a[i] = v;
        due("place " + i + " " + v, x.seen(0, a[0], a[1], a[2], a[3], a[4], a[5]), BAD);
      }
    }
    due("first of 0", x.seen(0, 0, 0, 0, 0, 0, 0), 1);
    due("first of 3", x.seen(3, 40, 40, 40, 40, 40, 40), 1);
    due("second of 0", x.seen(0, 40, 0, 0, 40, 20, 20), 2);
    due("0 of 1", x.scatter(1, 0, 2), 0);
    // More calls than one object is promised for: the bound is told all the same.
    for (int i = 3; i <= 1000; i++) due("many", x.seen(0, 0, 0, 1, 1, 2, 2), i);
    due("full", x.seen(0, 0, 0, 1, 1, 2, 2), FULL);
    due("bad ahead of full", x.seen(0, 0, 0, 1, 1, 2, 41), BAD);
  }

  private static void p21Scatter() {
    JumpDiscs x = new JumpDiscs();
    for (int v : new int[] {-1, 5, MIN, MAX}) {
      due("player " + v, x.scatter(v == 5 ? 4 : v, 0, 0), BAD);
      due("kind " + v, x.scatter(0, v, 0), BAD);
      due("what " + v, x.scatter(0, 0, v == 5 ? 3 : v), BAD);
    }
    for (int k = 0; k < 5; k++) {
      due("none", x.scatter(0, k, 0), NO);
      due("none", x.scatter(0, k, 1), NO);
      due("none", x.scatter(0, k, 2), 0);
    }
    int[] ways = {0, 7, 8, 15, 16, 23, 24, 31, 32, 39, 40};
    for (int way : ways) x.seen(2, 0, 40, way, 40 - way / 2, way, 40 - way / 2);
    for (int k = 0; k < 5; k++) due("kind " + k, x.scatter(2, k, 2), k == 4 ? 3 : 2);
    due("0 above", x.scatter(2, 4, 0), 0);
    due("1 below", x.scatter(2, 4, 1), 1);
    x.seen(2, 20, 20, 20, 12, 17, 14);
    due("the way is the greater of both: 5 by 3", x.scatter(2, 1, 0), 5);
    due("by 3", x.scatter(2, 1, 1), 3);
    x.seen(2, 20, 20, 20, 12, 22, 11);
    due("8 by 4 is 2 by 1", x.scatter(2, 1, 0), 2);
    due("by 1", x.scatter(2, 1, 1), 1);
    due("4", x.scatter(2, 1, 2), 4);
    x.seen(2, 20, 20, 20, 12, 20, 12);
    x.seen(2, 20, 20, 20, 12, 21, 11);
    due("10 by 6 is 5 by 3", x.scatter(2, 1, 0), 5);
    due("by 3", x.scatter(2, 1, 1), 3);
    due("others have none", x.scatter(0, 1, 2), 0);
    x.seen(1, 30, 30, 0, 30, 4, 33);
    due("one: 7", x.scatter(1, 3, 0), 7);
    due("by 1", x.scatter(1, 3, 1), 1);
  }

  private static void p22And23KeepAndBack() {
    JumpDiscs x = ready();
    due("nothing is kept", x.back(), NO);
    x.put(9, 2, 2);
    x.rule(0, 1);
    x.rule(1, 2);
    x.rule(2, 12);
    x.seed(99);
    x.put(4, 41, 41);
    due("first", x.keep(), 1);
    due("count", x.count(4), 1);
    x.rule(0, 5);
    x.rule(1, 5);
    x.rule(2, 30);
    x.seed(1);
    x.anew();
    x.write(0, 5, 5);
    x.seen(1, 0, 0, 0, 0, 0, 0);
    due("second", x.keep(), 2);
    x.put(3, 7, 7);
    due("third", x.keep(), 3);
    due("full", x.keep(), FULL);
    x.put(3, 8, 8);
    due("the third", x.back(), 2);
    at(x, 3, 7, 7);
    due("the second", x.back(), 1);
    due("all at base", x.count(0), 16);
    due("the first", x.back(), 0);
    due("no more", x.back(), NO);
    due("lie", x.count(1), 5);
    due("in", x.count(2), 1);
    due("covered as it was", x.about(0, 5), 1 << 9);
    due("rough", x.rule(0, 0), 1);
    due("run", x.rule(1, 0), 2);
    due("time", x.rule(2, 12), 12);
    due("rows stay", x.count(3), 1);
    due("scatter stays", x.scatter(1, 0, 2), 1);
    JumpDiscs y = ready();
    y.seed(99);
    x.put(0, 2, 2);
    x.shoot(0, 30, 30);
    y.shoot(0, 30, 30);
    at(x, 0, y.about(0, 1), y.about(0, 2));
  }

  private static void p23BackToTurns() {
    JumpDiscs x = ready();
    x.rule(2, 10);
    idle(x, 17);
    due("left", x.game(2), 4);
    due("kept", x.keep(), 1);
    idle(x, 15);
    due("over", x.game(3), 1);
    due("kept when over", x.keep(), 2);
    x.anew();
    due("back to its end", x.back(), 1);
    due("over", x.game(3), 1);
    due("gone", x.game(1), 32);
    due("back ahead of it", x.back(), 0);
    due("turn", x.game(0), 1);
    due("gone", x.game(1), 17);
    due("left", x.game(2), 4);
    due("what was kept is not touched by what is played on", x.keep(), 1);
    idle(x, 1);
    x.put(0, 20, 20);
    due("back", x.back(), 0);
    at(x, 0, 2, 2);
    due("gone", x.game(1), 17);
  }

  private static void p24Count() {
    JumpDiscs x = ready();
    for (int w : new int[] {-1, 6, MIN, MAX}) due("what " + w, x.count(w), BAD);
    x.put(15, 41, 41);
    x.put(14, 41, 41);
    x.put(5, 2, 3);
    x.put(6, 2, 4);
    x.write(0, 1, 1);
    x.keep();
    due("base", x.count(0), 8);
    due("lie", x.count(1), 6);
    due("cup", x.count(2), 2);
    due("shots", x.count(3), 1);
    due("kept", x.count(4), 1);
    due("covered: 0 and 5", x.count(5), 2);
  }

  private static void say(String name) { says("promise " + name); }

  public static void main(String[] args) {
    say("1"); p1NewObject();
    say("2"); p2Anew();
    say("3"); p3Rule(); p3RuleTimeIsNow();
    say("4"); p4Seed();
    say("5"); p5Put(); p5PutPassesOver(); p5PutEndsAndGoesOn();
    say("6"); p6About();
    say("7"); p7ShootRefused(); p7ShootSpreads(); p7ShootRunsAndCup(); p7ShootRunsFromWhereItCameDown(); p7ShootLiesLast();
    say("8"); p8Blow(); p8BlowByNumbers();
    say("9"); p9GameTime(); p9GamePassedOver(); p9GameOneMore(); p9GameAllIn();
    p9GameTurnBehindTheLastPot(); p9GameTurnBehindTheLastRound();
    say("10"); p10Score();
    say("11"); p11Twelfths();
    say("12"); p12Points();
    say("13"); p13Chance();
    say("14"); p14Best(); p14BestOfSeveral();
    say("15"); p15Ahead();
    say("16"); p16Write();
    say("17"); p17Wipe();
    say("18"); p18Wrong(); p18WrongByTime();
    say("19"); p19CanBe(); p19CanBeCovers(); p19CanBeAnew();
    say("20"); p20Seen();
    say("21"); p21Scatter();
    say("22 and 23"); p22And23KeepAndBack(); p23BackToTurns();
    say("24"); p24Count();
    CHECK.finish();
  }
}
