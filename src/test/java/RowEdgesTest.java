/** The sentences of ==== 4 and of promises 16 to 24 that name a boundary: rows, gaps, scatter, kept boards, counts. */
public final class RowEdgesTest extends Bench {
  /** The i-th of 24 SHOTS none of which is WRONG: all DISCS, then 0 to 7 again, far from one another. */
  private static void writeRight(JumpDiscs x, int from, int end) {
    for (int i = from; i < end; i++) due("written", x.write(i % 16, rightX(i), rightY(i)), i + 1);
  }

  private static int rightX(int i) { return 5 + 10 * (i % 4); }
  private static int rightY(int i) { return 3 + 6 * (i / 4); }

  private static void rowOf24AtMost() {
    says("==== 4: A ROW of SHOTS, 24 at most. Promise 16: how many. BAD; FULL");
    JumpDiscs x = new JumpDiscs();
    writeRight(x, 0, 24);
    due("the 25th", x.write(8, 5, 39), FULL);
    due("BAD is first", x.write(16, 5, 39), BAD);
    due("BAD is first", x.write(8, 41, 39), BAD);
    due("24", x.count(3), 24);
    due("the row is as it was", x.wrong(), NONE);
    due("wiped", x.wipe(), 24);
    due("empty", x.count(3), 0);
    writeRight(x, 0, 24);
    due("full again", x.write(8, 5, 39), FULL);
  }

  private static void placesOfWrittenShots() {
    says("==== 4: DISC, x, y where it came to lie (THE CUP: 41, 41), or a GAP of place (-1, -1)");
    int[] odd = {-2, -1, 0, 40, 41, 42};
    for (int px : odd) {
      for (int py : odd) {
        boolean told = onMat(px, py) || px == py && (px == -1 || px == 41);
        due(px + ", " + py, new JumpDiscs().write(0, px, py), told ? 1 : BAD);
      }
    }
    JumpDiscs x = new JumpDiscs();
    row(x, 0, 20, 20, 4, 5, 5);
    due("20, 20 is a place, not THE CUP: no TURN more", x.wrong(), 1);
    x.wipe();
    row(x, 0, 41, 41, 4, 5, 5);
    due("THE CUP: one TURN more", x.wrong(), NONE);
    x.wipe();
    row(x, 0, -1, -1, 4, 5, 5);
    due("a GAP is a place: no TURN more", x.wrong(), 1);
  }

  private static void wipeOfNoneAndSome() {
    says("Promise 17: THE ROW is empty: how many there were");
    JumpDiscs x = new JumpDiscs();
    due("none", x.wipe(), 0);
    x.write(3, 5, 5);
    due("wrong", x.wrong(), 0);
    due("one", x.wipe(), 1);
    due("none", x.wipe(), 0);
    due("none wrong", x.wrong(), NONE);
    due("no GAP", x.canBe(0), NO);
    due("from the first", x.write(0, 5, 5), 1);
  }

  private static void firstWrongFrom0To23() {
    says("==== 4: FIRST WRONG: the first SHOT that is not so. Promise 18: NONE");
    for (int at = 0; at <= 24; at++) {
      JumpDiscs x = new JumpDiscs();
      writeRight(x, 0, Math.min(at, 24));
      due("none", x.wrong(), NONE);
      if (at == 24) break;
      x.write((at + 1) % 4, 35, 38);
      due("not of the player", x.wrong(), at);
      if (at < 23) writeRight(x, at + 1, 24);
      due("the first of several", x.wrong(), at);
    }
  }

  private static void toldAgainstAllAtBase() {
    says("==== 4: It is told against all DISCS at BASE (whatever the board, its TURN and TURNS gone are)");
    JumpDiscs x = ready();
    x.rule(2, 10);
    idle(x, 11);
    x.put(0, 41, 41);
    holdDown(x, 1, 5, 3, 10);
    writeRight(x, 0, 8);
    due("none wrong", x.wrong(), NONE);
    due("the board is as it was", x.count(2), 1);
    due("turns gone", x.game(1), 11);
    putAll(x, 0, 41, 41);
    due("over", x.game(3), 1);
    due("none wrong", x.wrong(), NONE);
    x.write(0, -1, -1);
    due("nor with a GAP", x.wrong(), NONE);
    due("all places and THE CUP", x.canBe(0), 1682);
    due("over as it was", x.game(3), 1);
    x.anew();
    due("the row stays", x.wrong(), NONE);
  }

  private static void shotsOfDiscsThatAreNotFree() {
    says("==== 4: each SHOT must be of a FREE DISC not in THE CUP");
    // 1 comes by 1 and by 2 from 0: two SMALL ones; 9 by 2 and by 3: a SMALL and a LARGE one.
    int[][] told = {{1, 1, 4}, {1, 2, NONE}, {9, 2, 4}, {9, 3, NONE}};
    for (int[] t : told) {
      JumpDiscs x = new JumpDiscs();
      row(x, 0, 10, 10, t[0], 10 + t[1], 10, 2, 30, 10, 3, 30, 30, 0, 10, 30);
      due(t[0] + " by " + t[1], x.wrong(), t[2]);
    }
    JumpDiscs y = new JumpDiscs();
    row(y, 0, 10, 10, 1, 10, 10, 2, 30, 10, 3, 30, 30, 4, 10, 30, 1, 10, 33, 2, 30, 10, 3, 30, 30, 0, 5, 5);
    due("FREE again, as 1 went off", y.wrong(), NONE);
    y.wipe();
    row(y, 0, 41, 41, 0, 5, 5);
    due("in THE CUP", y.wrong(), 1);
    y.wipe();
    row(y, 0, 41, 41, 0, 41, 41);
    due("in THE CUP", y.wrong(), 1);
    y.wipe();
    row(y, 0, 10, 10, 1, 30, 30, 2, 30, 10, 3, 10, 30, 0, 10, 10);
    due("it does not COVER itself", y.wrong(), NONE);
  }

  private static void shotsOfThePlayerThatTurnsAllow() {
    says("==== 4: and of the player that TURNS allow (as in 2 ..)");
    JumpDiscs x = new JumpDiscs();
    row(x, 0, 5, 5, 1, 35, 5, 2, 35, 35, 3, 5, 35, 0, 5, 5);
    due("from 3 on to 0", x.wrong(), NONE);
    x.wipe();
    row(x, 0, 5, 5, 1, 35, 5, 2, 35, 35, 3, 41, 41, 7, 41, 41, 11, 5, 35, 0, 5, 5);
    due("3 has one more twice", x.wrong(), NONE);
    x.wipe();
    row(x, 0, 5, 5, 1, 35, 5, 2, 35, 35, 3, 41, 41, 0, 5, 5);
    due("3 has one more: not 0", x.wrong(), 4);
    // 0 has three in and its last under 1's: passed over; 1 shoots twice in a row then, as 2 and 3 are held down too.
    x.wipe();
    row(x, 0, 41, 41, 4, 41, 41, 8, 41, 41, 12, 5, 5, 1, 5, 5, 2, 30, 30, 3, 30, 10, 5, 10, 30);
    due("0 is passed over", x.wrong(), NONE);
    x.wipe();
    row(x, 0, 41, 41, 4, 41, 41, 8, 41, 41, 12, 5, 5, 1, 5, 5, 2, 30, 30, 3, 30, 10, 12, 10, 30);
    due("0 is passed over", x.wrong(), 7);
    x.wipe();
    row(x, 0, 41, 41, 4, 41, 41, 8, 5, 5, 1, 5, 5, 2, 30, 30, 3, 30, 10, 12, 41, 41, 5, 9, 9);
    due("who POTS its last FREE one is passed over though it has one more", x.wrong(), NONE);
  }

  private static void noneWhenOver() {
    says("==== 4: none when THE GAME is over");
    for (int p = 0; p < 4; p++) {
      JumpDiscs x = new JumpDiscs();
      for (int q = 0; q < p; q++) x.write(q, IDLE_X[q], IDLE_Y[q]);
      for (int d = p; d < 12; d += 4) x.write(d, 41, 41);
      due("three in", x.wrong(), NONE);
      x.write(p + 12, 41, 41);
      due("the last may be", x.wrong(), NONE);
      x.write((p + 1) % 4 + 4, 20, 30);
      due("none behind it", x.wrong(), p + 4);
      x.wipe();
    }
  }

  private static void byTimeAsItIs() {
    says("==== 4: by TIME as it is");
    JumpDiscs x = new JumpDiscs();
    row(x, ROUNDS_OF_ONE);
    for (int i = 0; i < 8; i++) x.write(1, 30, 30);
    due("TIME 100", x.wrong(), NONE);
    // Rounds end behind SHOTS 13, 15, 16, 17, .. 24: the sixth from TIME on is the last.
    int[][] told = {{10, 19}, {13, 19}, {14, 20}, {15, 20}, {16, 21}, {17, 22}, {18, 23}, {19, NONE}, {400, NONE}, {10, 19}};
    for (int[] t : told) {
      x.rule(2, t[0]);
      due("TIME " + t[0], x.wrong(), t[1]);
    }
    x.keep();
    x.rule(2, 400);
    due("TIME 400", x.wrong(), NONE);
    x.back();
    due("TIME is 10 again", x.wrong(), 19);
  }

  private static void gapCoversNothing() {
    says("Promise 18: (A GAP counts as a place where it COVERS nothing and nothing COVERS it)");
    int[] places = {0, 5, 20, 40};
    for (int place : places) {
      JumpDiscs x = new JumpDiscs();
      row(x, 0, place, place, 1, -1, -1, 2, 30, 10, 3, 10, 30, 0, place, place);
      due("it COVERS nothing", x.wrong(), NONE);
      x.wipe();
      row(x, 0, -1, -1, 1, place, place, 2, 30, 10, 3, 10, 30, 0, 9, 20);
      due("nothing COVERS it", x.wrong(), NONE);
    }
    JumpDiscs y = new JumpDiscs();
    row(y, 0, -1, -1, 1, -1, -1, 2, -1, -1, 3, -1, -1, 0, -1, -1, 1, -1, -1, 2, -1, -1, 3, -1, -1);
    due("many GAPS, of one DISC twice", y.wrong(), NONE);
    row(y, 0, 5, 5, 1, 5, 5, 2, 30, 10, 3, 10, 30, 0, 5, 5);
    due("behind it the place counts again", y.wrong(), 12);
    y.wipe();
    row(y, 0, 5, 5, 1, 5, 5, 2, 30, 10, 3, 10, 30, 4, 5, 35, 1, -1, -1, 2, 30, 10, 3, 10, 30, 0, 9, 9);
    due("with a GAP it went off what it COVERED", y.wrong(), NONE);
    y.wipe();
    row(y, 1, -1, -1);
    due("a GAP may be WRONG itself", y.wrong(), 0);
  }

  private static void justOneGap() {
    says("Promise 19: BAD; NO: not just one GAP");
    JumpDiscs x = new JumpDiscs();
    for (int what : new int[] {MIN, -1, 2, MAX}) due("what " + what, x.canBe(what), BAD);
    for (int what = 0; what <= 1; what++) due("an empty row", x.canBe(what), NO);
    x.write(0, 5, 5);
    x.write(1, 41, 41);
    for (int what = 0; what <= 1; what++) due("none", x.canBe(what), NO);
    x.write(5, -1, -1);
    due("one", x.canBe(0), 1682);
    x.write(2, -1, -1);
    for (int what = 0; what <= 1; what++) due("two", x.canBe(what), NO);
    for (int i = 4; i < 24; i++) x.write(0, -1, -1);
    due("many", x.canBe(0), NO);
    for (int what : new int[] {MIN, -1, 2, MAX}) due("BAD is first", x.canBe(what), BAD);
    x.wipe();
    due("none any more", x.canBe(1), NO);
  }

  private static void gapFromTheFirstToTheLastShot() {
    says("==== 4: With just one GAP: CAN BE: places 0 to 40 by 0 to 40 (and THE CUP, if it is one's)");
    for (int gap = 0; gap < 24; gap++) {
      JumpDiscs x = new JumpDiscs();
      writeRight(x, 0, gap);
      x.write(gap % 16, -1, -1);
      due("as the last: all places and THE CUP", x.canBe(0), 1682);
      due("the first", x.canBe(1), 0);
      writeRight(x, gap + 1, 24);
      int many = 0, first = NONE;
      for (int place = 41 * 41; place >= 0; place--) {
        int px = place == 41 * 41 ? 41 : place / 41, py = place == 41 * 41 ? 41 : place % 41;
        if (firstWrongWith(gap, px, py) != NONE) continue;
        many++;
        first = 100 * px + py;
      }
      due("with 24: as many as there are with which none is WRONG", x.canBe(0), many);
      due("the first of them", x.canBe(1), first);
    }
  }

  private static int firstWrongWith(int gap, int px, int py) {
    JumpDiscs x = new JumpDiscs();
    for (int i = 0; i < 24; i++) x.write(i % 16, i == gap ? px : rightX(i), i == gap ? py : rightY(i));
    return x.wrong();
  }

  private static void placesThatCannotBe() {
    says("==== 4: places .. with which none is WRONG: how many");
    // Around a place of the mat: 3 by 3 for two SMALL ones, 5 by 5 for both sizes, 7 by 7 less its corners for LARGE.
    int[][] told = {{0, 1, 9}, {0, 9, 25}, {8, 1, 25}, {8, 9, 45}};
    for (int[] t : told) {
      JumpDiscs x = new JumpDiscs();
      row(x, t[0], 10, 10, t[1], -1, -1, 2, 30, 10, 3, 10, 30, t[0], 9, 20);
      due(t[1] + " may not COVER " + t[0], x.canBe(0), 1681 - t[2]);
      x.wipe();
      row(x, t[0], -1, -1, t[1], 10, 10, 2, 41, 41, 6, 41, 41, 10, 41, 41, 14, 0, 40, 3, 41, 41, 7, 41, 41, 11, 41, 41,
          15, 40, 40, t[0], 9, 20);
      // Nor under 14 and 15, both LARGE, in corners.
      due(t[1] + " may not COVER it", x.canBe(0), 1681 - t[2] - 2 * (t[0] <= 7 ? 9 : 15));
    }
    JumpDiscs y = new JumpDiscs();
    row(y, 0, 0, 0, 1, -1, -1, 2, 30, 10, 3, 10, 30, 0, 9, 20);
    due("in the corner", y.canBe(0), 1681 - 4);
    due("the first: 0, 2", y.canBe(1), 2);
    y.wipe();
    row(y, 0, 40, 40, 1, -1, -1, 2, 30, 10, 3, 10, 30, 0, 9, 20);
    due("in the last corner", y.canBe(0), 1681 - 4);
    due("the first: 0, 0", y.canBe(1), 0);
    y.wipe();
    row(y, 0, 1, 1, 1, -1, -1, 2, 4, 1, 3, 1, 4, 0, 1, 1);
    due("with all that is written near to one corner", y.canBe(0), 1681 - 9);
    due("the first: 0, 3", y.canBe(1), 3);
  }

  /** 0 has three in and its last, 0, at a corner: 1 is next behind 3 only if the GAP of 1's DISC holds 0 down. */
  private static void mustHoldDown(int disc, int px, int py, int many, int first) {
    JumpDiscs x = new JumpDiscs();
    row(x, 4, 41, 41, 8, 41, 41, 12, 41, 41, 0, px, py, disc, -1, -1, 2, 20, 20, 3, 20, 30, 13, 30, 20);
    due(disc + " on " + px + ", " + py, x.canBe(0), many);
    due("first", x.canBe(1), first);
  }

  private static void theFirstByXThenY() {
    says("==== 4: the first by x, then y. Promise 19: the first: 100 x and y");
    mustHoldDown(1, 0, 0, 4, 0);
    mustHoldDown(1, 0, 40, 4, 39);
    mustHoldDown(1, 40, 0, 4, 3900);
    mustHoldDown(1, 40, 40, 4, 3939);
    mustHoldDown(9, 0, 0, 9, 0);
    mustHoldDown(9, 0, 40, 9, 38);
    mustHoldDown(9, 40, 0, 9, 3800);
    mustHoldDown(9, 40, 40, 9, 3838);
    mustHoldDown(1, 10, 10, 9, 909);
    mustHoldDown(9, 10, 10, 25, 808);
  }

  private static void theCupLast() {
    says("==== 4: (THE CUP last). Promise 19: NONE");
    JumpDiscs x = new JumpDiscs();
    row(x, 0, -1, -1, 4, 5, 5);
    due("THE CUP alone", x.canBe(0), 1);
    due("41, 41", x.canBe(1), 4141);
    x.wipe();
    row(x, 0, -1, -1);
    due("THE CUP too", x.canBe(0), 1682);
    due("it is not the first", x.canBe(1), 0);
    x.wipe();
    row(x, 0, -1, -1, 1, 5, 5);
    due("not THE CUP", x.canBe(0), 1681);
    x.wipe();
    row(x, 0, -1, -1, 0, 5, 5);
    due("none: not its TURN, and not out of THE CUP", x.canBe(0), 0);
    due("no first", x.canBe(1), NONE);
    x.wipe();
    row(x, 0, 41, 41, 4, 41, 41, 8, 41, 41, 12, -1, -1, 1, 5, 5);
    due("with THE CUP it were over", x.canBe(0), 1681);
    x.wipe();
    row(x, 0, 41, 41, 4, 41, 41, 8, 41, 41, 12, -1, -1);
    due("as the last SHOT it may be", x.canBe(0), 1682);
    x.wipe();
    row(x, 1, 5, 5, 0, -1, -1);
    due("WRONG ahead of it", x.canBe(0), 0);
    due("no first", x.canBe(1), NONE);
    x.wipe();
    row(x, 0, -1, -1, 1, 5, 5, 3, 5, 5);
    due("WRONG behind it, whatever it is", x.canBe(0), 0);
  }

  private static void seenHowManyOfThatPlayer() {
    says("Promise 20: A pair of aim and coming from a place: how many of that player. BAD");
    JumpDiscs x = new JumpDiscs();
    for (int i = 1; i <= 50; i++) {
      for (int p = 0; p < 4; p++) if (i % (p + 1) == 0) due("of " + p, x.seen(p, 0, 40, 40, 0, 20, i % 41), i / (p + 1));
    }
    due("player", x.seen(4, 0, 0, 0, 0, 0, 0), BAD);
    due("player", x.seen(-1, 0, 0, 0, 0, 0, 0), BAD);
    for (int i = 0; i < 6; i++) {
      for (int v : new int[] {-1, 41}) {
        int[] a = {40, 40, 40, 40, 40, 40};
        a[i] = v;
        due("number " + i + " " + v, x.seen(0, a[0], a[1], a[2], a[3], a[4], a[5]), BAD);
      }
    }
    due("-1, -1 is no place", x.seen(0, -1, -1, 0, 0, 0, 0), BAD);
    due("41, 41 is no place", x.seen(0, 0, 0, 0, 0, 41, 41), BAD);
    due("the corners are", x.seen(0, 40, 40, 0, 0, 40, 0), 51);
  }

  private static void seen1000AtMost() {
    says("Promise 20: FULL: 1000 (more than the 512 calls that are promised; the bound stands all the same)");
    JumpDiscs x = new JumpDiscs();
    for (int i = 1; i <= 1000; i++) due("of 2", x.seen(2, 0, 0, 40, 40, 0, 0), i);
    due("FULL", x.seen(2, 0, 0, 40, 40, 0, 0), FULL);
    due("BAD is first", x.seen(2, 0, 0, 40, 41, 0, 0), BAD);
    due("how many", x.scatter(2, 4, 2), 1000);
    due("80 by 1", x.scatter(2, 4, 0), 80);
    due("80 by 1", x.scatter(2, 4, 1), 1);
  }

  private static void kindsOfWays() {
    says("==== 4: by WAYS 0 to 7, 8 to 15, .. (5 kinds)");
    for (int way = 0; way <= 40; way++) {
      int[][] pairs = {{0, 20, way, 20}, {5, 40, 5, 40 - way}, {40, 0, 40 - way, way / 2}, {way / 3, 0, 0, way}};
      for (int[] t : pairs) {
        JumpDiscs x = new JumpDiscs();
        x.seen(1, t[0], t[1], t[2], t[3], 20, 20);
        for (int k = 0; k <= 4; k++) {
          due("way " + way + " of kind " + k, x.scatter(1, k, 2), k == Math.min(4, way / 8) ? 1 : 0);
        }
      }
    }
    for (int k : new int[] {MIN, -1, 5, MAX}) due("kind " + k, new JumpDiscs().scatter(0, k, 2), BAD);
    for (int w : new int[] {MIN, -1, 3, MAX}) due("what " + w, new JumpDiscs().scatter(0, 0, w), BAD);
    for (int p : new int[] {MIN, -1, 4, MAX}) due("player " + p, new JumpDiscs().scatter(p, 0, 2), BAD);
  }

  private static void scatterOfNone() {
    says("Promise 21: NO: none (0, 1)");
    JumpDiscs x = new JumpDiscs();
    x.seen(1, 0, 0, 8, 0, 9, 9);
    for (int p = 0; p < 4; p++) {
      for (int k = 0; k <= 4; k++) {
        if (p == 1 && k == 1) continue;
        due("above", x.scatter(p, k, 0), NO);
        due("below", x.scatter(p, k, 1), NO);
        due("how many", x.scatter(p, k, 2), 0);
      }
    }
    due("above", x.scatter(1, 1, 0), 10);
    due("below", x.scatter(1, 1, 1), 1);
    due("BAD is first", x.scatter(0, 0, 3), BAD);
  }

  private static void scatterInLowestTerms() {
    says("==== 4: how many, the sum of sizes of both offs; told in lowest terms (offs by how many)");
    int[][] told = { // offs by x and y of the pair, then above and below with all so far
        {0, 0, 0, 1}, {0, 0, 0, 1}, {0, 1, 1, 3}, {0, 1, 1, 2}, {-2, -1, 1, 1}, {4, -5, 7, 3}, {0, 0, 2, 1}, {20, -20, 27, 4},
        {-20, 20, 94, 9}, {0, 6, 10, 1}};
    JumpDiscs x = new JumpDiscs();
    int many = 0;
    for (int[] t : told) {
      x.seen(3, 15, 25, 20, 20, 20 + t[0], 20 + t[1]);
      many++;
      due("above of " + many, x.scatter(3, 0, 0), t[2]);
      due("below of " + many, x.scatter(3, 0, 1), t[3]);
      due("how many", x.scatter(3, 0, 2), many);
    }
    JumpDiscs y = new JumpDiscs();
    y.seen(0, 0, 0, 40, 40, 0, 0);
    due("the farthest off: 80 by 1", y.scatter(0, 4, 0), 80);
    due("by 1", y.scatter(0, 4, 1), 1);
  }

  private static void keptBoards3AtMost() {
    says("==== 4: KEPT are boards, 3 at most. Promise 22: how many. FULL. Promise 23: how many are left. NO");
    JumpDiscs x = new JumpDiscs();
    due("none", x.back(), NO);
    for (int i = 1; i <= 3; i++) {
      x.put(0, i, i);
      due("kept", x.keep(), i);
      due("count", x.count(4), i);
    }
    x.put(0, 9, 9);
    due("the fourth", x.keep(), FULL);
    due("three", x.count(4), 3);
    for (int i = 3; i >= 1; i--) {
      due("back", x.back(), i - 1);
      at(x, 0, i, i);
    }
    due("none is left", x.back(), NO);
    at(x, 0, 1, 1);
    due("kept again", x.keep(), 1);
    x.anew();
    due("anew leaves it", x.count(4), 1);
    due("back", x.back(), 0);
    at(x, 0, 1, 1);
  }

  private static void keptIsAllButRowsAndScatter() {
    says("==== 4: KEPT are boards (all but ROWS, SCATTER)");
    JumpDiscs x = ready();
    x.rule(0, 1);
    x.rule(2, 10);
    x.put(4, 10, 10);
    x.put(5, 10, 10);
    x.put(15, 41, 41);
    x.rule(0, 0);
    idle(x, 18);
    x.rule(0, 1);
    x.rule(1, 2);
    x.seed(77);
    x.keep();
    x.anew();
    x.put(5, 10, 10);
    x.put(4, 10, 10);
    x.rule(0, 5);
    x.rule(1, 5);
    x.rule(2, 400);
    x.seed(5);
    x.write(0, 5, 5);
    x.seen(0, 0, 0, 0, 0, 0, 0);
    due("back", x.back(), 0);
    due("turn", x.game(0), 2);
    due("gone", x.game(1), 18);
    due("rounds left", x.game(2), 4);
    due("who came later", x.about(5, 4), 1 << 4);
    due("in THE CUP", x.about(15, 0), 2);
    due("the row stays", x.count(3), 1);
    due("scatter stays", x.scatter(0, 0, 2), 1);
    Seed s = new Seed(77);
    int offX = s.off(3), offY = s.off(3);
    due("a SHOT by SEED, ROUGH and RUN as kept", x.shoot(6, 24, 40), 0);
    at(x, 6, nearest(24 + offX - 2), nearest(40 + offY));
    due("rough", x.rule(0, 0), 1);
    due("run", x.rule(1, 0), 2);
    due("time", x.rule(2, 400), 10);
  }

  private static void keptWhenOver() {
    says("Promise 23: As KEPT last (over, or not)");
    JumpDiscs x = new JumpDiscs();
    x.keep();
    putAll(x, 2, 41, 41);
    due("over", x.keep(), 2);
    x.put(2, -1, -1);
    due("goes on", x.game(3), 0);
    due("back", x.back(), 1);
    due("over", x.game(3), 1);
    due("back", x.back(), 0);
    due("not over", x.game(3), 0);
    due("all at BASE", x.count(0), 16);
  }

  private static void countWhats() {
    says("Promise 24: 0 DISCS at BASE, 1 that LIE, 2 in THE CUP, 3 SHOTS written, 4 KEPT, 5 COVERED ones. BAD");
    JumpDiscs x = new JumpDiscs();
    for (int what : new int[] {MIN, -1, 6, MAX}) due("what " + what, x.count(what), BAD);
    for (int d = 0; d < 16; d++) {
      due("at BASE", x.count(0), 16 - d);
      due("LIE", x.count(1), d);
      due("COVERED", x.count(5), Math.max(0, d - 1));
      x.put(d, 10, 10);
    }
    for (int d = 0; d < 16; d++) {
      due("in THE CUP", x.count(2), d);
      due("LIE", x.count(1), 16 - d);
      due("COVERED", x.count(5), Math.max(0, 15 - d));
      x.put(d, 41, 41);
    }
    due("in THE CUP", x.count(2), 16);
    due("none at BASE", x.count(0), 0);
    for (int i = 1; i <= 24; i++) {
      x.write(0, 5, 5);
      due("written", x.count(3), i);
    }
    x.put(1, 5, 5);
    x.put(0, 5, 5);
    x.put(2, 5, 5);
    due("COVERED by one and by two", x.count(5), 2);
  }

  public static void main(String[] args) { runAll(RowEdgesTest.class); }
}
