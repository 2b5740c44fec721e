/** The sentences of ==== 2 that name a boundary of shots: spread, seed, run, the mat's edge, the cup, piles blown. */
public final class ShotEdgesTest extends Bench {
  private static final int[] SEEDS = {1, 2, 48271, 1234567890, 2147483645, 2147483646};

  /** One SHOT of player 0 from a place, as ==== 2 tells it; DISC 0 or 4 is SMALL, 8 or 12 LARGE. */
  private static void shot(int seed, int rough, int run, int disc, int[] fromAndAim) {
    int fromX = fromAndAim[0], fromY = fromAndAim[1], aimX = fromAndAim[2], aimY = fromAndAim[3];
    JumpDiscs x = new JumpDiscs();
    x.seed(seed);
    x.rule(0, rough);
    x.rule(1, run);
    x.put(disc, fromX, fromY);
    int way = Math.max(Math.abs(aimX - fromX), Math.abs(aimY - fromY));
    int m = way / 8 + (disc <= 7 ? 0 : 1) + rough;
    Seed s = new Seed(seed);
    int downX = aimX + s.off(m), downY = aimY + s.off(m);
    boolean in = (downX - 20) * (downX - 20) + (downY - 20) * (downY - 20) <= 4;
    String what = disc + " from " + fromX + ", " + fromY + " at " + aimX + ", " + aimY + ", seed " + seed + ", m " + m
        + ", run " + run;
    due(what, x.shoot(disc, aimX, aimY), in ? 1 : 0);
    due(what + ", x", x.about(disc, 1), in ? 41 : nearest(downX + run * Integer.signum(aimX - fromX)));
    due(what + ", y", x.about(disc, 2), in ? 41 : nearest(downY + run * Integer.signum(aimY - fromY)));
  }

  private static void wayBy8Cut() {
    says("==== 2: m = (WAY by 8, cut, and size less 1, and ROUGH)");
    for (int way = 0; way <= 40; way++) {
      for (int seed : SEEDS) {
        shot(seed, 0, 0, 0, new int[] {0, 8, way, 8});
        shot(seed, 0, 0, 0, new int[] {8, 40, 8, 40 - way});
        shot(seed, 0, 0, 12, new int[] {40, 32, 40 - way, 32});
      }
    }
  }

  private static void wayIsTheGreaterOfBoth() {
    says("==== 2: WAY: the greater of how far it has to go in x and in y");
    int[][] told = {{2, 2, 9, 9}, {2, 2, 10, 2}, {2, 2, 9, 10}, {2, 2, 10, 10}, {30, 30, 26, 38}, {30, 5, 38, 1},
        {0, 40, 40, 0}, {40, 40, 0, 0}, {16, 38, 8, 24}, {33, 2, 18, 9}};
    for (int[] t : told) for (int seed : SEEDS) shot(seed, 0, 0, 4, t);
  }

  private static void wayFromBase() {
    says("==== 1, 2: a DISC at BASE has its WAY from BASE");
    for (int p = 0; p < 4; p++) {
      for (int way : new int[] {7, 8, 15, 16, 39, 40}) {
        JumpDiscs x = ready();
        idle(x, p);
        x.seed(1);
        int d = p + 4, toX = BASE_X[p] == 0 ? way : 40 - way, toY = BASE_Y[p];
        Seed s = new Seed(1);
        int offX = s.off(way / 8), offY = s.off(way / 8);
        due("lies", x.shoot(d, toX, toY), 0);
        at(x, d, nearest(toX + offX), nearest(toY + offY));
      }
    }
  }

  private static void roughFrom0To5() {
    says("==== 2: ROUGH (0 to 5; 0 at first)");
    due("at first", new JumpDiscs().rule(0, 5), 0);
    due("too small", new JumpDiscs().rule(0, -1), BAD);
    due("too large", new JumpDiscs().rule(0, 6), BAD);
    for (int rough = 0; rough <= 5; rough++) {
      for (int seed : SEEDS) {
        shot(seed, rough, 0, 0, new int[] {10, 10, 10, 10});
        shot(seed, rough, 0, 8, new int[] {10, 10, 10, 10});
        shot(seed, rough, 0, 8, new int[] {0, 30, 40, 30});
      }
    }
  }

  private static void seedTwiceForEachShot() {
    says("==== 2: SEED becomes SEED times 48271 modulo 2147483647 twice .. (SEED is 1 at first)");
    JumpDiscs x = ready();
    Seed s = new Seed(1);
    for (int i = 0; i < 40; i++) {
      // By turns a SMALL one with m 0, which draws all the same, and a LARGE one.
      int p = i % 4, d = i % 2 == 0 ? p : p + 8, m = i % 2 == 0 ? 0 : 1;
      x.put(d, 10 + p, 5 + 7 * p);
      int offX = s.off(m), offY = s.off(m);
      boolean in = (10 + p + offX - 20) * (10 + p + offX - 20) + (5 + 7 * p + offY - 20) * (5 + 7 * p + offY - 20) <= 4;
      due("no cup here", in ? 1 : 0, 0);
      due("shot " + i, x.shoot(d, 10 + p, 5 + 7 * p), 0);
      at(x, d, 10 + p + offX, 5 + 7 * p + offY);
      x.put(d, IDLE_X[p], IDLE_Y[p]);
    }
  }

  private static void seedsOfTheEnds() {
    says("Promise 4: SEED (1 to 2147483646): 0. BAD");
    for (int v : new int[] {MIN, -1, 0, MAX}) due("seed " + v, new JumpDiscs().seed(v), BAD);
    for (int v : new int[] {1, 2, 2147483645, 2147483646}) {
      due("seed " + v, new JumpDiscs().seed(v), 0);
      for (int rough = 0; rough <= 5; rough++) shot(v, rough, 0, 8, new int[] {30, 5, 30, 36});
    }
    // 2147483646 is -1 by the modulus: it becomes 2147435376, then 1964877853; by 3 they leave 0 and 1.
    JumpDiscs x = new JumpDiscs();
    x.put(8, 30, 30);
    x.seed(2147483646);
    due("lies", x.shoot(8, 30, 30), 0);
    at(x, 8, 29, 30);
  }

  private static void runFrom0To5() {
    says("==== 2: it goes on by RUN (0 to 5; 0 at first) as the signs of x and y of its way to the aim tell");
    due("at first", new JumpDiscs().rule(1, 5), 0);
    due("too small", new JumpDiscs().rule(1, -1), BAD);
    due("too large", new JumpDiscs().rule(1, 6), BAD);
    for (int run = 0; run <= 5; run++) {
      for (int sx = -1; sx <= 1; sx++) {
        for (int sy = -1; sy <= 1; sy++) {
          JumpDiscs x = new JumpDiscs();
          x.rule(1, run);
          x.put(0, 10, 30);
          due("lies", x.shoot(0, 10 + 2 * sx, 30 + 3 * sy), 0);
          at(x, 0, 10 + (2 + run) * sx, 30 + (3 + run) * sy);
        }
      }
    }
  }

  private static void runByTheAimNotByTheFall() {
    says("==== 2: as the signs of .. its way to the aim tell (from where it came down it goes on)");
    for (int seed = 1; seed <= 60; seed++) {
      shot(seed, 5, 5, 8, new int[] {20, 35, 21, 35});
      shot(seed, 5, 3, 0, new int[] {20, 35, 20, 34});
      shot(seed, 5, 4, 0, new int[] {10, 10, 10, 10});
    }
  }

  private static void beyondTheMatByRun() {
    says("==== 2: Beyond THE MAT x, y are the nearest that are on it (by RUN)");
    for (int sx = -1; sx <= 1; sx++) {
      for (int sy = -1; sy <= 1; sy++) {
        for (int run = 0; run <= 5; run++) {
          JumpDiscs x = new JumpDiscs();
          x.rule(1, run);
          int fromX = sx < 0 ? 4 : sx > 0 ? 36 : 30, fromY = sy < 0 ? 4 : sy > 0 ? 36 : 30;
          x.put(4, fromX, fromY);
          due("lies", x.shoot(4, fromX + 2 * sx, fromY + 2 * sy), 0);
          // Of two steps on, RUN 2 comes just to the edge.
          at(x, 4, fromX + Math.min(4, 2 + run) * sx, fromY + Math.min(4, 2 + run) * sy);
        }
      }
    }
  }

  private static void beyondTheMatBySpread() {
    says("==== 2: Beyond THE MAT x, y are the nearest that are on it (by SPREAD)");
    int[][] corners = {{0, 0}, {40, 0}, {0, 40}, {40, 40}, {0, 10}, {40, 10}, {10, 0}, {10, 40}};
    for (int[] c : corners) {
      for (int seed = 1; seed <= 40; seed++) {
        shot(seed, 5, 0, 8, new int[] {c[0], c[1], c[0], c[1]});
        shot(seed, 2, 0, 0, new int[] {40 - c[0], 40 - c[1], c[0], c[1]});
      }
    }
  }

  private static void ontoTheMatBehindRunning() {
    says("==== 2: Then it RUNS: from where it came down .. Beyond THE MAT x, y are the nearest (behind RUNNING, once)");
    for (int seed = 1; seed <= 60; seed++) {
      shot(seed, 5, 3, 8, new int[] {40, 10, 39, 10});
      shot(seed, 5, 5, 0, new int[] {0, 0, 1, 1});
    }
    // ROUGH 5: 337897 leaves 10 by 11, 1278240558 leaves 1: down at 44, 6, on by 2 to 42, 6.
    JumpDiscs x = new JumpDiscs();
    x.seed(7);
    x.rule(0, 5);
    x.rule(1, 2);
    x.put(0, 40, 10);
    due("lies", x.shoot(0, 39, 10), 0);
    at(x, 0, 40, 6);
  }

  private static void cupAheadOfRunning() {
    says("==== 2: If THE CUP takes it (where it came down, ahead of RUNNING), it is in");
    for (int run = 0; run <= 5; run++) {
      int[][] into = {{20, 26, 20, 22}, {14, 20, 18, 20}, {25, 25, 21, 21}, {20, 20, 20, 20}};
      for (int[] t : into) {
        JumpDiscs x = new JumpDiscs();
        x.rule(1, run);
        x.put(0, t[0], t[1]);
        due("in, run " + run, x.shoot(0, t[2], t[3]), 1);
        due("in", x.about(0, 0), 2);
      }
      // Down 3 off THE CUP, it may run to its midst and LIES there.
      JumpDiscs y = new JumpDiscs();
      y.rule(1, run);
      y.put(0, 14, 20);
      due("lies, run " + run, y.shoot(0, 17, 20), 0);
      at(y, 0, 17 + run, 20);
      due("lies", y.about(0, 0), 1);
    }
  }

  private static void liesLastOfAll() {
    says("==== 2: else it LIES there, last of all");
    JumpDiscs x = new JumpDiscs();
    x.put(0, 10, 10);
    x.put(1, 13, 10);
    x.put(9, 14, 10);
    x.put(2, 13, 11);
    due("jumps on three", x.shoot(0, 13, 10), 0);
    due("covers all", x.about(0, 4), 1 << 1 | 1 << 9 | 1 << 2);
    due("free", x.about(0, 3), 1);
    due("9 covers still", x.about(9, 4), 1 << 1);
    due("2 covers still", x.about(2, 4), 1 << 1 | 1 << 9);
    JumpDiscs y = new JumpDiscs();
    y.put(0, 40, 40);
    y.put(1, 40, 40);
    y.put(4, 38, 40);
    y.rule(1, 5);
    due("by RUN to the edge", y.shoot(4, 39, 40), 0);
    due("covers both", y.about(4, 4), 1 << 0 | 1 << 1);
  }

  private static void shotRefused() {
    says("Promise 7: NO: not of the player, not FREE, in THE CUP, over");
    JumpDiscs x = ready();
    for (int d : new int[] {1, 2, 3, 5, 15}) due("not of the player", x.shoot(d, 5, 5), NO);
    x.put(9, 2, 3);
    due("not FREE", x.shoot(0, 5, 5), NO);
    x.put(4, 41, 41);
    due("in THE CUP", x.shoot(4, 5, 5), NO);
    putAll(x, 3, 41, 41);
    due("over", x.shoot(8, 5, 5), NO);
    x.put(15, 35, 30);
    due("goes on", x.shoot(8, 5, 5), 0);
  }

  private static void blownFromTwo() {
    says("==== 2: BLOWN is a PILE (of two or more) .. Promise 8: NO: likewise, at BASE, alone");
    JumpDiscs x = new JumpDiscs();
    due("at BASE", x.blow(0), NO);
    x.put(0, 10, 10);
    due("alone", x.blow(0), NO);
    x.put(5, 12, 10);
    due("two SMALL ones 2 apart are alone", x.blow(0), NO);
    x.put(4, 11, 11);
    due("not FREE", x.blow(0), NO);
    due("not FREE, of another", x.blow(5), NO);
    x.put(1, 12, 11);
    due("FREE, of another", x.blow(1), NO);
    due("4 is COVERED by 1", x.blow(4), NO);
    x.put(8, 41, 41);
    due("in THE CUP", x.blow(8), NO);
    due("at BASE", x.blow(12), NO);
    x.put(1, -1, -1);
    putAll(x, 2, 41, 41);
    due("over", x.blow(4), NO);
    x.put(2, 30, 30);
    due("three", x.blow(4), 1 << 0 | 1 << 4 | 1 << 5);
    JumpDiscs y = new JumpDiscs();
    y.put(4, 10, 10);
    y.put(8, 12, 11);
    due("two", y.blow(8), 1 << 4 | 1 << 8);
    due("a TURN", y.game(1), 1);
    due("of the next", y.game(0), 1);
  }

  /** A PILE of the DISCS at a place, in their order of lying, blown by the last of them; what is due is told by numbers. */
  private static void blown(int seed, int px, int py, int... discs) {
    JumpDiscs x = new JumpDiscs();
    x.seed(seed);
    x.rule(0, 5);
    x.rule(1, 5);
    int bits = 0;
    for (int d : discs) {
      x.put(d, px, py);
      bits |= 1 << d;
    }
    due("blown", x.blow(discs[discs.length - 1]), bits);
    Seed s = new Seed(seed);
    int[] toX = new int[16], toY = new int[16];
    for (int d = 0; d < 16; d++) {
      if ((bits & 1 << d) == 0) continue;
      toX[d] = nearest(px + s.off(3));
      toY[d] = nearest(py + s.off(3));
      due("lies", x.about(d, 0), 1);
      at(x, d, toX[d], toY[d]);
    }
    for (int d = 0; d < 16; d++) {
      if ((bits & 1 << d) == 0) continue;
      int covers = 0;
      for (int o = 0; o < d; o++) {
        if ((bits & 1 << o) == 0) continue;
        int reach = (d <= 7 ? 1 : 2) + (o <= 7 ? 1 : 2);
        int apart = (toX[d] - toX[o]) * (toX[d] - toX[o]) + (toY[d] - toY[o]) * (toY[d] - toY[o]);
        if (apart < reach * reach) covers |= 1 << o;
      }
      due(d + " covers those of lower numbers", x.about(d, 4), covers);
    }
    due("none in THE CUP", x.count(2), 0);
  }

  private static void blownByNumbersAndLast() {
    says("==== 2: each of its DISCS, by numbers, comes to its place moved likewise by m = 3, one behind the other, LIES last");
    for (int seed : SEEDS) {
      blown(seed, 10, 30, 12, 3, 9, 0);
      blown(seed, 30, 10, 15, 14, 13, 11, 10, 9, 7, 6, 5, 3, 2, 1, 12, 8, 4, 0);
      blown(seed, 30, 10, 1, 8);
    }
  }

  private static void blownWithoutRunAndCup() {
    says("==== 2: (no RUN, no CUP; those beyond THE MAT to the nearest)");
    int[][] places = {{20, 20}, {18, 18}, {0, 0}, {40, 0}, {0, 40}, {40, 40}, {0, 20}, {20, 40}};
    for (int[] p : places) {
      for (int seed : SEEDS) blown(seed, p[0], p[1], 0, 1, 2, 3, 9, 12);
    }
  }

  private static void blownOntoOthers() {
    says("==== 2: and LIES there last of all then (on those that are not of THE PILE too)");
    JumpDiscs x = new JumpDiscs();
    x.put(0, 10, 10);
    x.put(4, 10, 10);
    // SEED 1: 0 is moved by 3, -3, 4 by 2, 1; these LIE there, and 0 and 4 hang together with neither.
    x.put(1, 13, 7);
    x.put(2, 12, 12);
    due("two of them", x.blow(4), 1 << 0 | 1 << 4);
    due("0 over 1", x.about(0, 4), 1 << 1);
    due("4 over 2", x.about(4, 4), 1 << 2);
  }

  private static void blownHasNoTurnMore() {
    says("==== 2: Who POTS one of its own (aimed, not blown) has one TURN more");
    JumpDiscs x = new JumpDiscs();
    x.put(4, 17, 23);
    x.put(0, 17, 23);
    due("blown", x.blow(0), 1 << 0 | 1 << 4);
    at(x, 0, 20, 20);
    due("lies", x.about(0, 0), 1);
    due("the next", x.game(0), 1);
    due("one TURN", x.game(1), 1);
  }

  public static void main(String[] args) { runAll(ShotEdgesTest.class); }
}
