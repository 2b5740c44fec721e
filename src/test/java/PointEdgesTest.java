/** The sentences of ==== 3 and of promises 10 to 15 that name a boundary: score, places, points, chances, best shots. */
public final class PointEdgesTest extends Bench {
  /** All sixteen places are far from one another and from THE CUP's midst. */
  private static void lay(JumpDiscs x, int disc) { x.put(disc, 5 + 10 * (disc % 4), 4 + 10 * (disc / 4)); }

  private static void scoreFrom0To12() {
    says("==== 3: SCORE of a player: 3 for each of its DISCS in THE CUP, 1 for each that LIES and is FREE");
    for (int p = 0; p < 4; p++) {
      for (int in = 0; in <= 4; in++) {
        for (int lie = 0; lie + in <= 4; lie++) {
          JumpDiscs x = new JumpDiscs();
          for (int i = 0; i < in; i++) x.put(p + 4 * i, 41, 41);
          for (int i = in; i < in + lie; i++) lay(x, p + 4 * i);
          due(in + " in, " + lie + " lie", x.score(p), 3 * in + lie);
          for (int other = 0; other < 4; other++) if (other != p) due("none of " + other, x.score(other), 0);
        }
      }
    }
  }

  private static void scoreOfCoveredOnes() {
    says("==== 3: 1 for each that LIES and is FREE (not COVERED, not at BASE)");
    JumpDiscs x = new JumpDiscs();
    due("at BASE", x.score(1), 0);
    putAll(x, 1, 10, 10);
    due("the upper one alone", x.score(1), 1);
    x.put(2, 10, 10);
    due("none", x.score(1), 0);
    due("the one above", x.score(2), 1);
    x.put(2, -1, -1);
    due("one again", x.score(1), 1);
  }

  /** 0, 1 (one LIES), 3 (one in), 4 (both), 10 (three in, one LIES), 12 (all in). */
  private static final int[] SCORES = {0, 1, 3, 4, 10, 12};

  private static void score(JumpDiscs x, int player, int score) {
    int in = score / 3;
    for (int i = 0; i < in; i++) x.put(player + 4 * i, 41, 41);
    if (score % 3 == 1) lay(x, player + 4 * in);
  }

  private static void placesShared() {
    says("==== 3: 48, 24, 12, 0 twelfths for the first to the last; players alike share what theirs are together");
    int[] prize = {48, 24, 12, 0};
    for (int which = 0; which < 1296; which++) {
      int[] s = {SCORES[which % 6], SCORES[which / 6 % 6], SCORES[which / 36 % 6], SCORES[which / 216]};
      JumpDiscs x = new JumpDiscs();
      for (int p = 0; p < 4; p++) score(x, p, s[p]);
      int[] twelfths = new int[4];
      int[] points = new int[2];
      for (int p = 0; p < 4; p++) {
        int ahead = 0, alike = 0, sum = 0;
        for (int o = 0; o < 4; o++) {
          if (s[o] > s[p]) ahead++;
          if (s[o] == s[p]) alike++;
        }
        for (int i = ahead; i < ahead + alike; i++) sum += prize[i];
        due("whole", sum % alike, 0);
        twelfths[p] = sum / alike;
        points[p % 2] += twelfths[p] + (s[p] == 12 ? 12 : 0);
        points[1 - p % 2] -= s[p] == 12 ? 12 : 0;
        due("score", x.score(p), s[p]);
        due(s[0] + " " + s[1] + " " + s[2] + " " + s[3] + ", " + p, x.twelfths(p), twelfths[p]);
      }
      due("all together", twelfths[0] + twelfths[1] + twelfths[2] + twelfths[3], 84);
      for (int side = 0; side < 2; side++) due("points of " + side, x.points(side), points[side]);
    }
  }

  private static void placesAlikeByOtherWays() {
    says("==== 3: PLACES: by SCORE (three that LIE are as good as one in THE CUP)");
    JumpDiscs x = new JumpDiscs();
    for (int i = 0; i < 3; i++) lay(x, 4 * i);
    x.put(1, 41, 41);
    due("0", x.twelfths(0), 36);
    due("1", x.twelfths(1), 36);
    due("2", x.twelfths(2), 6);
    lay(x, 12);
    due("0 with four", x.twelfths(0), 48);
    due("1", x.twelfths(1), 24);
  }

  private static void placesOfThoseAllIn() {
    says("==== 3: those all of whose DISCS are in ahead of others");
    for (int p = 0; p < 4; p++) {
      JumpDiscs x = new JumpDiscs();
      for (int o = 0; o < 4; o++) score(x, o, o == p ? 12 : 10);
      due("first", x.twelfths(p), 48);
      for (int o = 0; o < 4; o++) if (o != p) due("shared", x.twelfths(o), 12);
    }
  }

  private static void pointsBelowZero() {
    says("==== 3: for each player all of whose DISCS are in its side gets 12 twelfths from the other");
    for (int side = 0; side < 2; side++) {
      JumpDiscs x = new JumpDiscs();
      putAll(x, side, 41, 41);
      due("one", x.points(side), 72);
      due("of the other", x.points(1 - side), 12);
      x.put(side + 2, 41, 41);
      x.put(side + 6, 41, 41);
      x.put(side + 10, 41, 41);
      due("three of the second are none", x.points(side), 84);
      due("of the other", x.points(1 - side), 0);
      x.put(side + 14, 41, 41);
      due("both", x.points(side), 96);
      due("of the other: below 0", x.points(1 - side), -12);
      putAll(x, 1 - side, 41, 41);
      putAll(x, 3 - side, 41, 41);
      due("all four", x.points(side), 42);
      due("of the other", x.points(1 - side), 42);
    }
  }

  private static void chanceToPot() {
    says("==== 3: CHANCE, by 36, to POT from a WAY: 36 less WAY, not below 1");
    for (int d : new int[] {3, 11}) {
      for (int way = 0; way <= 20; way++) {
        JumpDiscs x = new JumpDiscs();
        x.put(d, 20 - way, 20);
        due("by x " + way, x.chance(d, -1), 36 - way);
        x.put(d, 20, 20 + way);
        due("by y " + way, x.chance(d, -1), 36 - way);
        x.put(d, 20 + way, 20 - way / 2);
        due("the greater " + way, x.chance(d, -1), 36 - way);
      }
      due("from BASE", new JumpDiscs().chance(d, -1), 16);
    }
  }

  private static void chanceToCover() {
    says("==== 3: to COVER: 36 less 2 WAY for a SMALL, less WAY for a LARGE DISC, not below 1");
    for (int d : new int[] {0, 7, 8, 15}) {
      for (int way = 0; way <= 40; way++) {
        int due = Math.max(1, 36 - (d <= 7 ? 2 * way : way));
        for (int aim : new int[] {1, 9}) {
          JumpDiscs x = new JumpDiscs();
          x.put(d, 0, 10);
          x.put(aim, way, 10);
          due(d + " by x " + way + " on " + aim, x.chance(d, aim), due);
          x.put(d, 30, 40);
          x.put(aim, 30 - way / 2, 40 - way);
          due(d + " by y " + way + " on " + aim, x.chance(d, aim), due);
        }
      }
    }
    JumpDiscs y = new JumpDiscs();
    y.put(1, 17, 0);
    due("SMALL from BASE, 17", y.chance(0, 1), 2);
    due("LARGE from BASE, 17", y.chance(8, 1), 19);
    y.put(1, 0, 35);
    due("LARGE from BASE, 35", y.chance(8, 1), 1);
    due("COVERED or not, of which side it may be", y.chance(12, 1), 1);
  }

  private static void chanceRefused() {
    says("Promise 13: to POT (aim = -1), to COVER a DISC that LIES. BAD; NO: in THE CUP, the aim does not LIE, is itself");
    JumpDiscs x = new JumpDiscs();
    for (int aim : new int[] {MIN, -2, 16, MAX}) due("aim " + aim, x.chance(0, aim), BAD);
    for (int d : new int[] {MIN, -1, 16, MAX}) due("disc " + d, x.chance(d, -1), BAD);
    due("the aim is at BASE", x.chance(0, 1), NO);
    due("itself at BASE", x.chance(0, 0), NO);
    x.put(0, 10, 10);
    due("itself, that LIES", x.chance(0, 0), NO);
    x.put(1, 41, 41);
    due("the aim is in THE CUP", x.chance(0, 1), NO);
    due("it is in THE CUP", x.chance(1, 0), NO);
    due("it is in THE CUP, to POT", x.chance(1, -1), NO);
    due("BAD is first", x.chance(1, 16), BAD);
    x.put(1, 10, 10);
    due("0 is COVERED: told all the same", x.chance(0, 1), 36);
    due("the aim is COVERED: told all the same", x.chance(1, 0), 36);
    due("of its own side", x.chance(2, 0), 1);
  }

  /** Player 0 with just one DISC that is not in THE CUP. */
  private static JumpDiscs withOnly(int disc) {
    JumpDiscs x = new JumpDiscs();
    for (int d = 0; d < 16; d += 4) if (d != disc) x.put(d, 41, 41);
    return x;
  }

  private static void best(JumpDiscs x, int player, int disc, int aim, int worth) {
    due("disc of " + player, x.best(player, 0), disc);
    due("aim of " + player, x.best(player, 1), aim);
    due("chance times gain of " + player, x.best(player, 2), worth);
  }

  private static void gainOfPot() {
    says("==== 3: GAIN of POT: 2 (3 from BASE)");
    JumpDiscs x = withOnly(0);
    best(x, 0, 0, -1, 48);
    x.put(0, 0, 0);
    best(x, 0, 0, -1, 32);
    x.put(0, 20, 20);
    best(x, 0, 0, -1, 72);
    x.put(0, 20, 5);
    best(x, 0, 0, -1, 42);
  }

  private static void gainWithin6OfTheCup() {
    says("==== 3: of COVERING a FREE DISC of the other side that LIES: 1, and 1 more if it LIES within 6 of THE CUP");
    for (int px = 12; px <= 28; px++) {
      for (int py = 12; py <= 28; py++) {
        JumpDiscs x = withOnly(8);
        x.put(1, px, py);
        int sx = px < 20 ? -1 : 1, sy = py < 20 ? -1 : 1;
        x.put(8, px + 3 * sx, py + 3 * sy);
        int pot = 2 * (36 - Math.max(Math.abs(px + 3 * sx - 20), Math.abs(py + 3 * sy - 20)));
        int cover = 33 * (Math.max(Math.abs(px - 20), Math.abs(py - 20)) <= 6 ? 2 : 1);
        best(x, 0, 8, cover > pot ? 1 : -1, Math.max(cover, pot));
      }
    }
    JumpDiscs y = withOnly(8);
    y.put(1, 14, 14);
    y.put(8, 10, 14);
    best(y, 0, 8, 1, 64);
    y.put(1, 13, 14);
    best(y, 0, 8, -1, 52);
  }

  private static void gainForEachOfTheOwnSideBelow() {
    says("==== 3: of COVERING one that COVERS a DISC of the own side (FREE itself, of the other side): 1 more for each");
    int[] own = {2, 6, 10, 14};
    for (int many = 0; many <= 4; many++) {
      JumpDiscs x = withOnly(8);
      for (int i = 0; i < many; i++) x.put(own[i], 5, 5);
      x.put(3, 5, 5);
      x.put(1, 5, 5);
      x.put(13, 5, 5);
      x.put(8, 10, 5);
      // 31 on 13, with 3 and 1 of its own side below that count nothing; POT is 21 by 2.
      int cover = 31 * (1 + many);
      best(x, 0, 8, cover > 42 ? 13 : -1, Math.max(cover, 42));
      x.put(7, 5, 5);
      best(x, 0, 8, cover > 42 ? 7 : -1, Math.max(cover, 42));
      x.put(7, 35, 35);
      x.put(4, 5, 5);
      due("COVERED by the own side 13 is no aim: 4 has its POT or 8 has", x.best(0, 1), -1);
    }
  }

  /** DISC d, with no other FREE one of its player, 4 from the aim that COVERS another one and LIES 6 from THE CUP. */
  private static JumpDiscs withOneBelow(int d, int aim, int below) {
    JumpDiscs x = new JumpDiscs();
    for (int o = d % 4; o < 16; o += 4) if (o != d) x.put(o, 41, 41);
    x.put(below, 14, 20);
    x.put(aim, 14, 20);
    x.put(d, 14, 24);
    return x;
  }

  private static void gainByWhoseIsBelow() {
    says("==== 3: one that COVERS a DISC of the own side (whichever of it; none of the other side)");
    for (int d = 0; d < 16; d++) {
      for (int aim = 0; aim < 16; aim++) {
        for (int below = 0; below < 16; below++) {
          if (d % 2 == aim % 2 || below == d || below == aim) continue;
          int chance = d <= 7 ? 28 : 32;
          int cover = chance * (below % 2 == d % 2 ? 3 : 2);
          best(withOneBelow(d, aim, below), d % 4, d, cover > 60 ? aim : -1, Math.max(60, cover));
        }
      }
    }
  }

  private static void aimsOfTheBestShot() {
    says("==== 3: of all FREE DISCS and aims (POT, or a DISC of the other side that is FREE and LIES)");
    JumpDiscs x = withOnly(8);
    x.put(8, 10, 20);
    best(x, 0, 8, -1, 52);
    x.put(2, 14, 20);
    best(x, 0, 8, -1, 52);
    x.put(3, 41, 41);
    best(x, 0, 8, -1, 52);
    x.put(1, 14, 20);
    // It COVERS 2 too: 32 by 3.
    best(x, 0, 8, 1, 96);
    x.put(6, 14, 20);
    best(x, 0, 8, -1, 52);
    x.put(3, 14, 21);
    best(x, 0, 8, 3, 32 * 4);
    x.put(5, 10, 20);
    due("its last is COVERED: no FREE DISC", x.best(0, 0), -102);
    best(x, 2, 10, -1, 48);
  }

  private static void bestOfSeveral() {
    says("==== 3: of several the lowest DISC, then POT, then the lowest aim");
    for (int p = 0; p < 4; p++) {
      best(new JumpDiscs(), p, p, -1, 48);
      JumpDiscs x = new JumpDiscs();
      x.put(p, 41, 41);
      best(x, p, p + 4, -1, 48);
    }
    // The lowest DISC with an aim goes ahead of another's POT: 16 by 3 from 4, 20, as 1 COVERS 2; POT is 16 by 3.
    JumpDiscs y = new JumpDiscs();
    y.put(2, 14, 20);
    y.put(1, 14, 20);
    y.put(0, 4, 20);
    best(y, 0, 0, 1, 48);
    y.put(0, 41, 41);
    y.put(4, 4, 20);
    best(y, 0, 4, 1, 48);
    y.put(12, 4, 20);
    best(y, 0, 12, 1, 78);
    // POT goes ahead of an aim of the same DISC: 24 by 2 both.
    JumpDiscs z = withOnly(0);
    z.put(0, 8, 20);
    z.put(3, 14, 20);
    best(z, 0, 0, -1, 48);
    // Of two aims the lowest, whichever came first: 26 by 2; POT is 25 by 2.
    z.put(0, 9, 20);
    z.put(3, 14, 22);
    z.put(1, 14, 18);
    best(z, 0, 0, 1, 52);
    z.put(3, 14, 22);
    z.put(9, 14, 18);
    z.put(1, -1, -1);
    best(z, 0, 0, 3, 52);
  }

  private static void bestRefused() {
    says("Promise 14: BAD -100; NO (no FREE DISC) -102");
    JumpDiscs x = new JumpDiscs();
    for (int p : new int[] {MIN, -1, 4, MAX}) due("player " + p, x.best(p, 0), -100);
    for (int what : new int[] {MIN, -1, 3, MAX}) due("what " + what, x.best(0, what), -100);
    holdDown(x, 0, 10, 10, 5);
    for (int what = 0; what <= 2; what++) due("all COVERED", x.best(0, what), -102);
    due("BAD is first", x.best(0, 3), -100);
    putAll(x, 1, 41, 41);
    for (int what = 0; what <= 2; what++) due("all in THE CUP", x.best(1, what), -102);
    due("over: the others are told", x.best(2, 2), 48);
    due("the upper one is FREE, as 5 is in THE CUP", x.best(0, 0), 12);
  }

  private static void aheadOfTheNext() {
    says("==== 3: AHEAD: that less the greatest such number of the next player (whose TURN it would be then)");
    for (int p = 0; p < 4; p++) {
      JumpDiscs x = ready();
      idle(x, p);
      due("alike", x.ahead(), 0);
      int next = (p + 1) % 4, second = (p + 2) % 4;
      x.put(next + 4, 20, 30);
      due("the next has 26 by 2", x.ahead(), 48 - 52);
      x.put(second + 4, 20, 10);
      x.put(second + 4, 22, 10);
      due("the one behind is not asked", x.ahead(), 48 - 52);
      x.put(next + 4, -1, -1);
      holdDown(x, next, 30, 20, second + 8);
      // Its second may be an aim now, 8 or 10 from THE CUP: GAIN 1, so POT of 48 stays; the next is passed over.
      due("passed over: second has 26 by 2", x.ahead(), 48 - 52);
    }
  }

  private static void aheadOfTheSame() {
    says("==== 3: (0 if one has none; it may be the same player)");
    for (int p = 0; p < 4; p++) {
      JumpDiscs x = ready();
      idle(x, p);
      int top = p;
      for (int q = 0; q < 4; q++) {
        if (q == p) continue;
        top += 4;
        holdDown(x, q, 10 * q + 2, 30, top);
      }
      due("its discs", x.game(4), 0x1111 << p);
      due("the same less the same", x.ahead(), 0);
    }
  }

  private static void aheadWhenOver() {
    says("Promise 15: NO (over) answers -10002");
    JumpDiscs x = new JumpDiscs();
    putAll(x, 3, 41, 41);
    due("over by THE CUP", x.ahead(), -10002);
    x.put(3, -1, -1);
    due("goes on", x.ahead(), 0);
    JumpDiscs y = ready();
    y.rule(2, 10);
    idle(y, 31);
    due("the last TURN", y.ahead(), 0);
    idle(y, 1);
    due("over by TIME", y.ahead(), -10002);
    y.rule(2, 400);
    due("goes on", y.ahead(), 0);
  }

  public static void main(String[] args) { runAll(PointEdgesTest.class); }
}
