/** The sentences of ==== 1 that name a boundary: the mat, the cup, discs, who covers whom, who is free, piles. */
public final class MatEdgesTest extends Bench {
  private static final int[] ODD = {-2, -1, 0, 20, 40, 41, 42, MIN, MAX};

  private static void everyPlaceOfTheMat() {
    says("==== 1: THE MAT is 41 by 41: x, y 0 to 40");
    for (int px = 0; px <= 40; px++) {
      JumpDiscs x = new JumpDiscs();
      for (int py = 0; py <= 40; py++) {
        due("put to " + px + ", " + py, x.put(py % 16, px, py), 0);
        due("lies", x.about(py % 16, 0), 1);
        at(x, py % 16, px, py);
      }
    }
  }

  private static void noPlaceBeyondTheMat() {
    says("==== 1: x, y 0 to 40 (beyond it only -1, -1 and 41, 41, where they are told)");
    for (int px : ODD) {
      for (int py : ODD) {
        String place = px + ", " + py;
        boolean mark = px == py && (px == -1 || px == 41);
        due("put to " + place, new JumpDiscs().put(0, px, py), onMat(px, py) || mark ? 0 : BAD);
        due("write " + place, new JumpDiscs().write(0, px, py), onMat(px, py) || mark ? 1 : BAD);
        due("shoot at " + place, new JumpDiscs().shoot(0, px, py), onMat(px, py) ? 0 : BAD);
        due("seen from " + place, new JumpDiscs().seen(0, px, py, 1, 1, 1, 1), onMat(px, py) ? 1 : BAD);
        due("seen, aim " + place, new JumpDiscs().seen(0, 1, 1, px, py, 1, 1), onMat(px, py) ? 1 : BAD);
        due("seen at " + place, new JumpDiscs().seen(0, 1, 1, 1, 1, px, py), onMat(px, py) ? 1 : BAD);
      }
    }
  }

  private static void cupTakesBy2AtMost() {
    says("==== 1: THE CUP is at 20, 20 and takes a DISC that comes to a place off it by 2 at most (squares: 4 at most)");
    int taken = 0;
    for (int px = 14; px <= 26; px++) {
      for (int py = 14; py <= 26; py++) {
        JumpDiscs x = new JumpDiscs();
        x.put(0, px, py);
        boolean in = (px - 20) * (px - 20) + (py - 20) * (py - 20) <= 4;
        int got = x.shoot(0, px, py);
        taken += got;
        due("comes to " + px + ", " + py, got, in ? 1 : 0);
        due("where it is", x.about(0, 0), in ? 2 : 1);
        at(x, 0, in ? 41 : px, in ? 41 : py);
      }
    }
    due("places that it takes from", taken, 13);
  }

  private static void cupTakesOnTheAxesAndNoFarther() {
    says("==== 1: off it by 2 at most: 2, 0 is in, 2, 1 (5) and 3, 0 (9) are not, whatever the sign");
    int[][] told = {{18, 20, 1}, {22, 20, 1}, {20, 18, 1}, {20, 22, 1}, {19, 19, 1}, {21, 21, 1}, {19, 21, 1}, {21, 19, 1},
        {18, 19, 0}, {18, 21, 0}, {22, 19, 0}, {22, 21, 0}, {19, 18, 0}, {21, 18, 0}, {19, 22, 0}, {21, 22, 0},
        {17, 20, 0}, {23, 20, 0}, {20, 17, 0}, {20, 23, 0}, {18, 18, 0}, {22, 22, 0}};
    for (int[] t : told) {
      JumpDiscs x = new JumpDiscs();
      x.put(4, 20, 26);
      x.put(4, t[0] + 3, t[1] + 3);
      due("to " + t[0] + ", " + t[1], x.shoot(4, t[0], t[1]), t[2]);
    }
  }

  private static void players() {
    says("==== 1: Players 0 to 3");
    for (int p : new int[] {MIN, -1, 0, 3, 4, MAX}) {
      boolean is = p == 0 || p == 3;
      JumpDiscs x = new JumpDiscs();
      due("score " + p, x.score(p), is ? 0 : BAD);
      due("twelfths " + p, x.twelfths(p), is ? 21 : BAD);
      due("best " + p, x.best(p, 2), is ? 48 : -100);
      due("seen " + p, x.seen(p, 0, 0, 0, 0, 0, 0), is ? 1 : BAD);
      due("scatter " + p, x.scatter(p, 0, 2), is ? 1 : BAD);
    }
  }

  private static void sides() {
    says("==== 1: sides 0 (0, 2) and 1 (1, 3)");
    for (int s : new int[] {MIN, -1, 2, 3, MAX}) due("side " + s, new JumpDiscs().points(s), BAD);
    for (int p = 0; p < 4; p++) {
      JumpDiscs x = new JumpDiscs();
      x.put(p, 41, 41);
      due("with one of " + p, x.points(p % 2), 60);
      due("the other side", x.points(1 - p % 2), 24);
    }
  }

  private static void numbersOfDiscs() {
    says("==== 1: DISCS 0 to 15");
    for (int d : new int[] {MIN, -1, 0, 15, 16, MAX}) {
      boolean is = d == 0 || d == 15;
      due("put " + d, new JumpDiscs().put(d, 5, 5), is ? 0 : BAD);
      due("about " + d, new JumpDiscs().about(d, 3), is ? 1 : BAD);
      due("shoot " + d, new JumpDiscs().shoot(d, 5, 5), d == 0 ? 0 : is ? NO : BAD);
      due("blow " + d, new JumpDiscs().blow(d), is ? NO : BAD);
      due("write " + d, new JumpDiscs().write(d, 5, 5), is ? 1 : BAD);
      JumpDiscs x = new JumpDiscs();
      x.put(0, 20, 20);
      x.put(15, 20, 20);
      due("chance of " + d, x.chance(d, -1), is ? 36 : BAD);
      due("chance on " + d, x.chance(2, d), is || d == -1 ? d == -1 ? 16 : 1 : BAD);
    }
  }

  private static void discsOfPlayers() {
    says("==== 1: DISC d is of player d modulo 4");
    for (int p = 0; p < 4; p++) {
      for (int d = 0; d < 16; d++) {
        JumpDiscs x = ready();
        idle(x, p);
        due("discs of " + p, x.game(4), 0x1111 << p);
        due(p + " shoots " + d, x.shoot(d, 10, 10), d % 4 == p ? 0 : NO);
      }
    }
  }

  private static void smallAndLarge() {
    says("==== 1: DISCS 0 to 7 are SMALL (size 1), others LARGE (2)");
    for (int d = 0; d < 16; d++) {
      JumpDiscs x = ready();
      idle(x, d % 4);
      x.seed(1);
      x.put(d, 20, 8);
      due("lies", x.shoot(d, 20, 8), 0);
      // m is 0 for a SMALL one; by 3 the SEEDS 48271 and 182605794 leave 1 and 0 for a LARGE one.
      at(x, d, 20, d <= 7 ? 8 : 7);
      JumpDiscs y = new JumpDiscs();
      int under = d == 0 ? 1 : 0;
      y.put(under, 10, 10);
      y.put(d, 12, 10);
      due(d + " covers a SMALL one that is 2 off", y.about(d, 4), d <= 7 ? 0 : 1 << under);
    }
  }

  private static void basesOfPlayers() {
    says("==== 1: at BASE (at first) .. BASES are at 0, 0 (player 0), 40, 0 (1), 40, 40 (2), 0, 40 (3)");
    JumpDiscs x = new JumpDiscs();
    for (int d = 0; d < 16; d++) {
      due("where " + d, x.about(d, 0), 0);
      at(x, d, BASE_X[d % 4], BASE_Y[d % 4]);
    }
    JumpDiscs y = new JumpDiscs();
    for (int d = 0; d < 16; d++) {
      y.put(d, 7, 7);
      y.put(d, -1, -1);
      at(y, d, BASE_X[d % 4], BASE_Y[d % 4]);
    }
  }

  private static void coversBelowTheSquareOfSizes() {
    says("==== 1: the squares of how far they are apart .. are below the square of both sizes together");
    int[][] pairs = {{0, 1}, {7, 6}, {0, 8}, {8, 0}, {7, 15}, {15, 7}, {8, 9}, {15, 14}};
    for (int[] p : pairs) {
      int under = p[0], upper = p[1], sizes = (under <= 7 ? 1 : 2) + (upper <= 7 ? 1 : 2);
      for (int dx = -5; dx <= 5; dx++) {
        for (int dy = -5; dy <= 5; dy++) {
          JumpDiscs x = new JumpDiscs();
          x.put(under, 20, 30);
          x.put(upper, 20 + dx, 30 + dy);
          boolean covers = dx * dx + dy * dy < sizes * sizes;
          String what = upper + " off " + under + " by " + dx + ", " + dy;
          due(what + " covers", x.about(upper, 4), covers ? 1 << under : 0);
          due(what + " is covered", x.about(under, 5), covers ? 1 << upper : 0);
          due(what + ", free", x.about(under, 3), covers ? 0 : 1);
          due(what + ", free above", x.about(upper, 3), 1);
          due(what + ", pile", x.about(under, 6), covers ? 1 << under | 1 << upper : 1 << under);
        }
      }
    }
  }

  private static void coversIfItCameLater() {
    says("==== 1: one COVERS another, if it came to lie later (or was put so)");
    JumpDiscs x = new JumpDiscs();
    x.put(1, 10, 10);
    x.put(0, 10, 10);
    due("put later", x.about(0, 4), 1 << 1);
    due("never both ways", x.about(1, 4), 0);
    x.put(1, 10, 10);
    due("put again, to its own place", x.about(1, 4), 1 << 0);
    due("not any more", x.about(0, 4), 0);
    x.put(0, 10, 11);
    due("shot to its own place", x.shoot(0, 10, 11), 0);
    due("later", x.about(0, 4), 1 << 1);
    due("not from below", x.about(1, 5), 1 << 0);
    x.put(0, -1, -1);
    x.put(0, 10, 9);
    due("from BASE", x.about(0, 4), 1 << 1);
    x.put(0, 41, 41);
    due("in THE CUP it COVERS none", x.about(1, 5), 0);
    x.put(0, 11, 10);
    due("and back", x.about(1, 5), 1 << 0);
  }

  private static void onlyDiscsThatLieCover() {
    says("==== 1: Of DISCS that LIE one COVERS another; FREE is a DISC at BASE");
    JumpDiscs x = new JumpDiscs();
    x.put(1, 0, 0);
    due("those at BASE are not COVERED", x.about(1, 4), 0);
    for (int d = 0; d < 16; d += 4) {
      due("FREE at BASE " + d, x.about(d, 3), 1);
      due("none over it", x.about(d, 5), 0);
      due("none below it", x.about(d, 4), 0);
      due("no pile", x.about(d, 6), 0);
    }
    due("COVERED", x.count(5), 0);
    due("those at one BASE are apart", x.game(4), 0x1111);
  }

  private static void freeIfNoneCovers() {
    says("==== 1: FREE is .. one that LIES and none COVERS");
    JumpDiscs x = new JumpDiscs();
    x.put(0, 10, 10);
    due("alone", x.about(0, 3), 1);
    x.put(4, 10, 10);
    due("its own player's COVERS it too", x.about(0, 3), 0);
    x.put(8, 10, 10);
    due("by two", x.about(0, 5), 1 << 4 | 1 << 8);
    due("that COVERS and is COVERED", x.about(4, 3), 0);
    due("the upper one", x.about(8, 3), 1);
    x.put(4, 30, 30);
    due("still one", x.about(0, 3), 0);
    x.put(8, 30, 30);
    due("none any more", x.about(0, 3), 1);
    x.put(0, 41, 41);
    due("in THE CUP", x.about(0, 3), 0);
  }

  private static void pileOfAll() {
    says("==== 1: A PILE of a DISC that LIES: all that hang together with it by COVERS (either way)");
    // SMALL and LARGE by turns, 2 apart: each hangs together with just its neighbours.
    int[][] chains = {{7, 8, 0, 15, 3, 12, 2, 11, 5, 9, 6, 14, 1, 10, 4, 13},
        {7, 15, 6, 14, 5, 13, 4, 12, 3, 11, 2, 10, 1, 9, 0, 8}, {0, 8, 1, 9, 2, 10, 3, 11, 4, 12, 5, 13, 6, 14, 7, 15}};
    for (int[] chain : chains) {
      JumpDiscs x = new JumpDiscs();
      for (int i = 0; i < 16; i++) x.put(chain[i], 5 + 2 * i, 10);
      for (int d = 0; d < 16; d++) due("all from " + d, x.about(d, 6), 65535);
      x.put(chain[8], -1, -1);
      for (int i = 0; i < 16; i++) {
        int half = 0;
        for (int j = 0; j < 16; j++) if (i != 8 && j != 8 && (i < 8) == (j < 8)) half |= 1 << chain[j];
        due("half of it from " + chain[i], x.about(chain[i], 6), half);
      }
    }
    JumpDiscs y = new JumpDiscs();
    for (int d = 15; d >= 0; d--) y.put(d, 2 * d, 30);
    // By 2 apart LARGE ones hang together, and 7 with 8; SMALL ones do not.
    due("8 to 15, and 7", y.about(15, 6), 0xFF80);
    due("the same from its end", y.about(7, 6), 0xFF80);
    due("alone", y.about(6, 6), 1 << 6);
  }

  private static void pileFromAboveAndBelow() {
    says("==== 1: hang together .. (either way)");
    JumpDiscs x = new JumpDiscs();
    x.put(0, 10, 10);
    x.put(2, 12, 10);
    x.put(1, 11, 10);
    due("two below one", x.about(1, 4), 1 << 0 | 1 << 2);
    for (int d = 0; d <= 2; d++) due("from " + d, x.about(d, 6), 7);
    x.put(1, 30, 10);
    x.put(0, 29, 10);
    x.put(2, 31, 10);
    due("two above one", x.about(1, 5), 1 << 0 | 1 << 2);
    for (int d = 0; d <= 2; d++) due("from " + d, x.about(d, 6), 7);
    x.put(1, -1, -1);
    due("it falls apart", x.about(0, 6), 1 << 0);
  }

  private static void pileOfNone() {
    says("Promise 6: its PILE (itself with; 0: it does not LIE)");
    JumpDiscs x = new JumpDiscs();
    due("at BASE", x.about(5, 6), 0);
    x.put(5, 0, 40);
    due("itself", x.about(5, 6), 1 << 5);
    x.put(5, 41, 41);
    due("in THE CUP", x.about(5, 6), 0);
  }

  private static void placesToldOfDiscs() {
    says("Promise 6: 0 0 BASE, 1 LIES, 2 in THE CUP; 1 x, 2 y (at BASE its place; in THE CUP 41); 3 1 FREE (in THE CUP 0)");
    JumpDiscs x = new JumpDiscs();
    int[][] told = {{-1, -1, 0, 40, 0, 1}, {0, 40, 1, 0, 40, 1}, {41, 41, 2, 41, 41, 0}, {40, 0, 1, 40, 0, 1}, {-1, -1, 0, 40, 0, 1}};
    for (int[] t : told) {
      x.put(13, t[0], t[1]);
      for (int what = 0; what <= 3; what++) due("about " + what, x.about(13, what), t[2 + what]);
      due("covers", x.about(13, 4), 0);
      due("is covered", x.about(13, 5), 0);
    }
    for (int what : new int[] {MIN, -1, 7, MAX}) due("about " + what, x.about(13, what), BAD);
  }

  public static void main(String[] args) { runAll(MatEdgesTest.class); }
}
