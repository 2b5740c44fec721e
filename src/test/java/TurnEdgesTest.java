/** The sentences of ==== 2 and of promises 1, 2, 3, 5 and 9 that name a boundary of turns, time and rounds. */
public final class TurnEdgesTest extends Bench {
  private static final int[] HEAP_X = {10, 20, 30, 20}, HEAP_Y = {30, 33, 30, 8};

  /** Each of the players told as bits is held down by LARGE or SMALL DISCS of one that is not among them. */
  private static JumpDiscs readyWithHeld(int held, int by) {
    JumpDiscs x = ready();
    int top = by;
    for (int p = 0; p < 4; p++) {
      if ((held & 1 << p) == 0) continue;
      top += 4;
      holdDown(x, p, HEAP_X[p], HEAP_Y[p], top);
    }
    return x;
  }

  private static int lowestNotIn(int held) {
    int p = 0;
    while ((held & 1 << p) != 0) p++;
    return p;
  }

  /** A LARGE one is off by 1 and 1 at most. */
  private static void pots(JumpDiscs x, int disc) {
    x.put(disc, 20, 23);
    due("pots " + disc, x.shoot(disc, 20, 20), 1);
  }

  /** Idle TURNS in their order, with one call each: an object is promised 512. */
  private static void idleInOrder(JumpDiscs x, int from, int turns) {
    for (int i = from; i < from + turns; i++) {
      due("turn " + i, x.shoot(i % 4, IDLE_X[i % 4], IDLE_Y[i % 4]), 0);
    }
  }

  private static void newObject() {
    says("Promise 1: All DISCS at BASE; TURN of player 0");
    JumpDiscs x = new JumpDiscs();
    due("at BASE", x.count(0), 16);
    due("turn", x.game(0), 0);
    due("gone", x.game(1), 0);
    due("time is not come", x.game(2), NONE);
    due("not over", x.game(3), 0);
    due("discs", x.game(4), 0x1111);
    for (int what = 1; what <= 5; what++) due("count " + what, x.count(what), 0);
  }

  private static void turnsGoRound() {
    says("==== 2: TURNS go round 0, 1, 2, 3");
    JumpDiscs x = ready();
    for (int i = 0; i < 13; i++) {
      due("turn", x.game(0), i % 4);
      due("gone", x.game(1), i);
      idle(x, 1);
    }
  }

  private static void whoPotsHasOneMore() {
    says("==== 2: Who POTS one of its own has one TURN more");
    for (int p = 0; p < 4; p++) {
      JumpDiscs x = ready();
      idle(x, p);
      pots(x, p + 4);
      due("the same", x.game(0), p);
      due("the next may not", x.shoot((p + 1) % 4, 5, 5), NO);
      pots(x, p + 8);
      due("and again", x.game(0), p);
      idle(x, 1);
      due("then the next", x.game(0), (p + 1) % 4);
      due("one more is one", x.game(1), p + 3);
    }
  }

  private static void whoHasNoneIsPassedOver() {
    says("==== 2: who has no FREE DISC that is not in THE CUP is passed over");
    for (int p = 0; p < 4; p++) {
      for (int held = 0; held < 16; held++) {
        if ((held & 1 << p) != 0) continue;
        JumpDiscs x = ready();
        idle(x, p);
        int top = p;
        for (int q = 0; q < 4; q++) {
          if ((held & 1 << q) == 0) continue;
          top += 4;
          holdDown(x, q, HEAP_X[q], HEAP_Y[q], top);
        }
        due("its own turn stays", x.game(0), p);
        idle(x, 1);
        int next = (p + 1) % 4;
        while ((held & 1 << next) != 0) next = (next + 1) % 4;
        due("behind " + p + " with " + held + " held down", x.game(0), next);
        due("a TURN passed over is none", x.game(1), p + 1);
        due("its discs", x.game(4) != 0 ? 1 : 0, 1);
      }
    }
  }

  private static void passedOverWithSomeInTheCup() {
    says("==== 2: no FREE DISC that is not in THE CUP (three in, the fourth COVERED)");
    JumpDiscs x = ready();
    for (int d = 5; d < 16; d += 4) x.put(d, 41, 41);
    x.put(8, 38, 2);
    due("not over", x.game(3), 0);
    idle(x, 1);
    due("1 is passed over", x.game(0), 2);
    JumpDiscs y = ready();
    putAll(y, 1, 10, 10);
    y.put(8, 10, 10);
    y.put(13, -1, -1);
    idle(y, 1);
    due("one at BASE is FREE", y.game(0), 1);
    due("it alone", y.game(4), 1 << 13);
  }

  private static void passedOverByThatVeryShot() {
    says("==== 2: is passed over (COVERED by the SHOT behind which it would be its TURN, or FREE by it)");
    JumpDiscs x = ready();
    putAll(x, 1, 10, 10);
    x.put(0, 12, 12);
    due("jumps on the heap", x.shoot(0, 11, 11), 0);
    due("1 is held down", x.game(0), 2);
    JumpDiscs y = ready();
    holdDown(y, 1, 10, 10, 4);
    due("jumps off the heap", y.shoot(4, 16, 16), 0);
    due("1 is FREE", y.game(0), 1);
    due("its upper one", y.game(4), 1 << 13);
  }

  private static void passedOverThoughItHasOneMore() {
    says("==== 2: has one TURN more; who has no FREE DISC .. is passed over (a POT of the last FREE one)");
    for (int p = 0; p < 4; p++) {
      JumpDiscs x = ready();
      idle(x, p);
      int other = (p + 1) % 4;
      for (int d = p + 4; d < 16; d += 4) x.put(d, 10, 30);
      x.put(other + 8, 10, 30);
      due("one is FREE", x.game(4), 1 << p);
      pots(x, p);
      due("not over", x.game(3), 0);
      due("passed over", x.game(0), other);
      due("gone", x.game(1), p + 1);
    }
  }

  private static void noneOfTheFourHas() {
    says("==== 2: if none of the four has, THE GAME is over");
    JumpDiscs x = new JumpDiscs();
    for (int d = 0; d < 16; d++) x.put(d, 41, 41);
    due("over", x.game(3), 1);
    due("turn", x.game(0), NONE);
    due("discs", x.game(4), 0);
    for (int p = 0; p < 4; p++) due("best", x.best(p, 0), -102);
    due("ahead", x.ahead(), -10002);
    due("all in", x.count(2), 16);
    // On one heap the upper one is FREE, so it goes on with its player.
    JumpDiscs y = new JumpDiscs();
    for (int d = 0; d < 16; d++) y.put(d, 10, 10);
    due("not over", y.game(3), 0);
    due("of the upper one", y.game(0), 3);
    due("it alone", y.game(4), 1 << 15);
    due("the others are COVERED", y.count(5), 15);
  }

  private static void allOfOnePlayerByHand() {
    says("==== 2: It is over, too, if all of one player's DISCS are in THE CUP (by put)");
    for (int p = 0; p < 4; p++) {
      for (int last = p; last < 16; last += 4) {
        JumpDiscs x = new JumpDiscs();
        for (int d = p; d < 16; d += 4) if (d != last) x.put(d, 41, 41);
        due("three of " + p, x.game(3), 0);
        x.put(last, 41, 41);
        due("four of " + p, x.game(3), 1);
        due("turn", x.game(0), NONE);
        due("time is not come", x.game(2), NONE);
      }
    }
    JumpDiscs y = new JumpDiscs();
    for (int d = 0; d < 12; d += 4) for (int p = 0; p < 4; p++) y.put(d + p, 41, 41);
    due("three of each", y.game(3), 0);
  }

  private static void allOfOnePlayerByShot() {
    says("==== 2: It is over, too, if all of one player's DISCS are in THE CUP (by a SHOT)");
    for (int p = 0; p < 4; p++) {
      JumpDiscs x = ready();
      idle(x, p);
      for (int d = p + 4; d < 16; d += 4) {
        pots(x, d);
        due("not over", x.game(3), 0);
      }
      pots(x, p);
      due("over", x.game(3), 1);
      due("turn", x.game(0), NONE);
      due("gone", x.game(1), p + 4);
      due("no SHOT", x.shoot((p + 1) % 4, 5, 5), NO);
      x.put(p, -1, -1);
      due("the TURN had gone on: passed over", x.game(0), (p + 1) % 4);
    }
  }

  private static void timeFrom10To400() {
    says("==== 2: when TIME (10 to 400 TURNS; 100 at first) and five rounds more are over");
    for (int time : new int[] {10, 11, 12, 13, 100, 399, 400}) {
      JumpDiscs x = ready();
      due("as it was at first", time == 100 ? 100 : x.rule(2, time), 100);
      int turns = (time + 3) / 4 * 4 + 20;
      idleInOrder(x, 0, time - 1);
      due("TIME " + time + " is not come", x.game(2), NONE);
      idleInOrder(x, time - 1, 1);
      due("TIME " + time + " is come", x.game(2), 5);
      idleInOrder(x, time, turns - time - 1);
      due("one is left", x.game(2), 1);
      due("not over", x.game(3), 0);
      idleInOrder(x, turns - 1, 1);
      due("over", x.game(3), 1);
      due("none is left", x.game(2), 0);
      due("no SHOT", x.shoot(0, 2, 2), NO);
      due("gone", x.game(1), turns);
    }
  }

  private static void theRoundInWhichTimeComes() {
    says("==== 2: the round in which TIME comes is ended (till TURNS go from 3 on to 0), then five rounds, each ended so");
    for (int time = 10; time <= 17; time++) {
      JumpDiscs x = ready();
      x.rule(2, time);
      idleInOrder(x, 0, time);
      int inRound = time;
      for (; inRound % 4 != 0; inRound++) {
        due("that round is none of five", x.game(2), 5);
        idleInOrder(x, inRound, 1);
      }
      for (int left = 5; left >= 1; left--) {
        for (int i = 0; i < 4; i++) {
          due("left", x.game(2), left);
          due("not over", x.game(3), 0);
          idleInOrder(x, inRound++, 1);
        }
      }
      due("over", x.game(3), 1);
      due("left", x.game(2), 0);
    }
  }

  private static void roundsWithSomePassedOver() {
    says("==== 2: till TURNS go from 3 on to 0, whether 0 is passed over or not");
    for (int held = 0; held < 15; held++) {
      JumpDiscs x = readyWithHeld(held, lowestNotIn(held));
      x.rule(2, 10);
      int players = 4 - Integer.bitCount(held);
      int turns = ((10 + players - 1) / players + 5) * players;
      for (int i = 1; i < turns; i++) {
        idle(x, 1);
        int ended = i < 10 ? 0 : Math.max(0, i / players - (10 + players - 1) / players);
        due(held + " held down, left behind " + i, x.game(2), i < 10 ? NONE : 5 - ended);
        due("gone", x.game(1), i);
      }
      due(held + " held down: not over", x.game(3), 0);
      idle(x, 1);
      due(held + " held down: over", x.game(3), 1);
      due("left", x.game(2), 0);
    }
  }

  private static void oneMoreIsOne() {
    says("==== 2: (A TURN passed over is none; one more is one)");
    JumpDiscs x = ready();
    x.rule(2, 10);
    for (int i = 1; i <= 10; i++) {
      pots(x, 0);
      due("gone", x.game(1), i);
      due("TIME comes by POTS", x.game(2), i < 10 ? NONE : 5);
      due("still 0", x.game(0), 0);
    }
    x.put(0, 2, 2);
    idle(x, 4);
    due("that round is ended", x.game(2), 5);
    idle(x, 19);
    due("not over", x.game(3), 0);
    idle(x, 1);
    due("over", x.game(3), 1);
    due("gone", x.game(1), 34);
  }

  private static void timeComesWithAPotOf3() {
    says("==== 2: till TURNS go from 3 on to 0 (a POT of 3 leaves the round on)");
    JumpDiscs x = ready();
    x.rule(2, 12);
    idle(x, 11);
    pots(x, 3);
    due("come", x.game(2), 5);
    due("3 has one more", x.game(0), 3);
    x.put(3, 2, 38);
    idle(x, 1);
    due("now that round is ended", x.game(0), 0);
    idle(x, 3);
    pots(x, 3);
    due("of the first of five a TURN more", x.game(2), 5);
    x.put(3, 2, 38);
    idle(x, 1);
    due("ended", x.game(2), 4);
  }

  private static void anewAfterNoneAndSome() {
    says("Promise 2: All at BASE, TURN of player 0, no TURNS gone .. : how many TURNS there were");
    JumpDiscs x = ready();
    due("none", x.anew(), 0);
    due("all at BASE", x.count(0), 16);
    due("two", x.shoot(0, 5, 5) + x.shoot(1, 35, 5), 0);
    x.put(2, 41, 41);
    due("turns", x.anew(), 2);
    due("all at BASE", x.count(0), 16);
    due("none in THE CUP", x.count(2), 0);
    due("turn", x.game(0), 0);
    due("gone", x.game(1), 0);
    due("again", x.anew(), 0);
  }

  private static void anewWhenOver() {
    says("Promise 2: no TURNS gone (when it was over, and TIME was come)");
    JumpDiscs x = ready();
    x.rule(2, 10);
    idle(x, 32);
    due("over", x.game(3), 1);
    due("turns", x.anew(), 32);
    due("goes on", x.game(0), 0);
    due("time is not come", x.game(2), NONE);
    for (int p = 0; p < 4; p++) x.put(p, IDLE_X[p], IDLE_Y[p]);
    idle(x, 31);
    due("rounds were begun anew", x.game(2), 1);
    due("not over", x.game(3), 0);
    JumpDiscs y = new JumpDiscs();
    putAll(y, 2, 41, 41);
    due("over by THE CUP", y.game(3), 1);
    due("none", y.anew(), 0);
    due("goes on", y.game(0), 0);
  }

  private static void anewLeavesRules() {
    says("Promise 2: ROUGH, RUN, TIME, SEED stay");
    JumpDiscs x = new JumpDiscs();
    x.rule(0, 5);
    x.rule(1, 4);
    x.rule(2, 10);
    x.seed(2147483646);
    x.anew();
    due("lies", x.shoot(8, 8, 30), 0);
    Seed s = new Seed(2147483646);
    int offX = s.off(9), offY = s.off(9);
    at(x, 8, nearest(8 + offX + 4), nearest(30 + offY + 4));
    due("rough", x.rule(0, 0), 5);
    due("run", x.rule(1, 0), 4);
    due("time", x.rule(2, 10), 10);
  }

  private static void rulesRanges() {
    says("Promise 3: ROUGH (what = 0), RUN (1), TIME (2): what it was. BAD");
    int[][] told = {{0, 0, 5, 0}, {1, 0, 5, 0}, {2, 10, 400, 100}};
    for (int[] t : told) {
      JumpDiscs x = new JumpDiscs();
      due("below", x.rule(t[0], t[1] - 1), BAD);
      due("above", x.rule(t[0], t[2] + 1), BAD);
      due("far below", x.rule(t[0], MIN), BAD);
      due("far above", x.rule(t[0], MAX), BAD);
      due("as at first", x.rule(t[0], t[1]), t[3]);
      due("the least", x.rule(t[0], t[2]), t[1]);
      due("the most", x.rule(t[0], t[3]), t[2]);
      due("and back", x.rule(t[0], t[3]), t[3]);
    }
    for (int what : new int[] {MIN, -1, 3, MAX}) {
      due("what " + what, new JumpDiscs().rule(what, 0), BAD);
      due("what " + what, new JumpDiscs().rule(what, 10), BAD);
    }
  }

  private static void timeBelowThoseGone() {
    says("Promise 3: NO: TIME below the TURNS that are gone");
    for (int gone : new int[] {10, 11, 16, 25}) {
      JumpDiscs x = ready();
      x.rule(2, 10);
      idle(x, gone);
      if (gone > 10) due("below", x.rule(2, gone - 1), NO);
      due("what is none is BAD first", x.rule(2, 9), BAD);
      due("as many", x.rule(2, gone), 10);
      due("come", x.game(2) >= 0 ? 1 : 0, 1);
      due("above", x.rule(2, gone + 1), gone);
      due("not come", x.game(2), NONE);
    }
    JumpDiscs y = ready();
    y.rule(2, 400);
    idleInOrder(y, 0, 400);
    due("just as many", y.rule(2, 400), 400);
    idleInOrder(y, 400, 1);
    due("its own TIME is below them now", y.rule(2, 400), NO);
    due("come", y.game(2), 5);
  }

  private static void timeAsManyAsGone() {
    says("Promise 3: NO: TIME below the TURNS that are gone (so as many is told: TIME is come, and above is not)");
    JumpDiscs x = ready();
    idle(x, 10);
    due("not come", x.game(2), NONE);
    due("come", x.rule(2, 10), 100);
    due("five", x.game(2), 5);
    idle(x, 2);
    due("that round is ended", x.game(2), 5);
    idle(x, 4);
    due("one of five", x.game(2), 4);
    due("as many: rounds stay", x.rule(2, 16), 10);
    due("four", x.game(2), 4);
    idle(x, 16);
    due("over", x.game(3), 1);
    due("as many: still over", x.rule(2, 32), 16);
    due("over", x.game(3), 1);
    due("none left", x.game(2), 0);
  }

  private static void timeAboveThoseGone() {
    says("Promise 3: TIME above these is not come: its rounds begin anew, THE GAME goes on, if it was over by them alone");
    JumpDiscs x = ready();
    x.rule(2, 10);
    idle(x, 26);
    due("left", x.game(2), 2);
    due("above by one", x.rule(2, 27), 10);
    due("not come", x.game(2), NONE);
    idle(x, 1);
    due("comes again", x.game(2), 5);
    idle(x, 1);
    due("that round is none", x.game(2), 5);
    idle(x, 19);
    due("not over", x.game(3), 0);
    idle(x, 1);
    due("over", x.game(3), 1);
    due("above", x.rule(2, 49), 27);
    due("goes on", x.game(3), 0);
    due("turn", x.game(0), 0);
    due("not come", x.game(2), NONE);
  }

  private static void timeAboveWhenOverByTheCupToo() {
    says("Promise 3: THE GAME goes on .. if it was over by them alone (not if by THE CUP too)");
    JumpDiscs x = ready();
    x.rule(2, 10);
    idle(x, 32);
    putAll(x, 3, 41, 41);
    due("over by both", x.rule(2, 400), 10);
    due("over", x.game(3), 1);
    due("turn", x.game(0), NONE);
    due("not come", x.game(2), NONE);
    x.put(3, -1, -1);
    due("now it goes on", x.game(0), 0);
  }

  private static void timeAboveGoesOnAsBehindPut() {
    says("Promise 3: THE GAME goes on, as behind put() (players without a FREE DISC are passed over, which ends no round)");
    JumpDiscs x = ready();
    x.rule(2, 10);
    idle(x, 32);
    holdDown(x, 0, 10, 10, 7);
    holdDown(x, 1, 20, 8, 6);
    due("over", x.game(3), 1);
    x.rule(2, 33);
    due("0 and 1 are passed over", x.game(0), 2);
    due("no TURN", x.game(1), 32);
    idle(x, 1);
    due("come", x.game(2), 5);
    idle(x, 1);
    due("that round, of 2 and 3, is none of five", x.game(2), 5);
    idle(x, 2);
    due("one of five", x.game(2), 4);
    // Only 3 could shoot; while it is over 3 is held down and the others are FREE: it goes from 3 on to 0.
    JumpDiscs y = readyWithHeld(7, 3);
    y.rule(2, 10);
    idle(y, 15);
    due("over", y.game(3), 1);
    holdDown(y, 3, 10, 20, 5);
    for (int p = 0; p < 3; p++) y.put(p, IDLE_X[p], IDLE_Y[p]);
    y.rule(2, 16);
    due("3 is passed over", y.game(0), 0);
    idle(y, 1);
    due("come", y.game(2), 5);
    idle(y, 2);
    due("that round ends here, not by rule()", y.game(2), 5);
    idle(y, 3);
    due("one of five", y.game(2), 4);
  }

  private static void putToMarksAndEdges() {
    says("Promise 5: A DISC is put to x, y by hand, last of all (-1, -1: BASE; 41, 41: THE CUP): 0. BAD");
    int[][] places = {{0, 0}, {0, 40}, {40, 0}, {40, 40}, {20, 20}, {22, 20}};
    for (int[] p : places) {
      JumpDiscs x = new JumpDiscs();
      due("to the mat", x.put(6, p[0], p[1]), 0);
      due("lies, whether THE CUP is there or not", x.about(6, 0), 1);
      at(x, 6, p[0], p[1]);
      due("into THE CUP", x.put(6, 41, 41), 0);
      due("in", x.about(6, 0), 2);
      due("again", x.put(6, 41, 41), 0);
      due("to BASE", x.put(6, -1, -1), 0);
      due("at BASE", x.about(6, 0), 0);
      due("again", x.put(6, -1, -1), 0);
      due("all at BASE", x.count(0), 16);
    }
    int[][] half = {{-1, 0}, {0, -1}, {-1, 40}, {40, -1}, {-1, 41}, {41, -1}, {41, 0}, {0, 41}, {41, 40}, {40, 41}, {42, 42}, {-2, -2}};
    for (int[] p : half) due(p[0] + ", " + p[1], new JumpDiscs().put(6, p[0], p[1]), BAD);
  }

  private static void putIsNoTurn() {
    says("Promise 5: (No TURN)");
    JumpDiscs x = new JumpDiscs();
    for (int d = 0; d < 16; d++) {
      x.put(d, 5 + 2 * d, 5);
      due("turn", x.game(0), 0);
      due("gone", x.game(1), 0);
    }
    x.put(0, 41, 41);
    due("by hand it is no POT, but it is not 0's more than it was", x.game(0), 0);
    JumpDiscs y = new JumpDiscs();
    y.put(0, 20, 20);
    y.put(0, -1, -1);
    due("SEED is as it was", y.shoot(0, 20, 20), 0);
    at(y, 0, 19, 22);
  }

  private static void putLetsTheGameGoOn() {
    says("Promise 5: THE GAME goes on, if it was over and now is not");
    for (int p = 0; p < 4; p++) {
      JumpDiscs x = new JumpDiscs();
      putAll(x, p, 41, 41);
      due("over", x.game(3), 1);
      x.put(p, 41, 41);
      due("still over", x.game(3), 1);
      x.put((p + 1) % 4, 5, 5);
      due("still over", x.game(3), 1);
      x.put(p + 12, 10, 10);
      due("goes on", x.game(3), 0);
      due("turn", x.game(0), 0);
    }
    JumpDiscs y = ready();
    y.rule(2, 10);
    idle(y, 32);
    y.put(0, 10, 10);
    due("over by TIME it stays so", y.game(3), 1);
  }

  private static void putPassesOverWithoutRounds() {
    says("Promise 5: players without a FREE DISC are passed over, which ends no round");
    JumpDiscs x = ready();
    x.rule(2, 10);
    idle(x, 19);
    due("3's turn", x.game(0), 3);
    due("left", x.game(2), 4);
    holdDown(x, 3, 10, 30, 5);
    due("from 3 on to 0", x.game(0), 0);
    due("left as before", x.game(2), 4);
    due("no TURN", x.game(1), 19);
    holdDown(x, 0, 10, 10, 9);
    due("from 0 on to 1", x.game(0), 1);
    x.put(5, 30, 20);
    due("3 is FREE again: the TURN does not go back", x.game(0), 1);
    x.put(9, 30, 25);
    due("nor for 0", x.game(0), 1);
    // Round by hand: 1 and 2 held down as well, it goes to 3 and on to 0.
    holdDown(x, 1, 20, 8, 6);
    due("2", x.game(0), 2);
    holdDown(x, 2, 30, 8, 7);
    due("3", x.game(0), 3);
    due("left as before", x.game(2), 4);
  }

  private static void putPassesOverOnlyTheOneOnTurn() {
    says("Promise 5: players without a FREE DISC are passed over (one whose TURN it is not is not looked at)");
    JumpDiscs x = ready();
    holdDown(x, 1, 20, 8, 10);
    due("0's turn", x.game(0), 0);
    x.put(10, 30, 25);
    idle(x, 1);
    due("1 is FREE again", x.game(0), 1);
  }

  private static void putLeavesTheTurnWhileOver() {
    says("Promise 5: while it is over the TURN stays");
    JumpDiscs x = ready();
    idle(x, 2);
    putAll(x, 1, 41, 41);
    due("over", x.game(3), 1);
    holdDown(x, 2, 10, 10, 8);
    due("over still", x.game(0), NONE);
    x.put(8, 30, 25);
    x.put(1, -1, -1);
    due("2, as its upper one is FREE again", x.game(0), 2);
    JumpDiscs y = ready();
    y.rule(2, 10);
    idle(y, 32);
    holdDown(y, 0, 10, 10, 5);
    y.put(5, 30, 25);
    y.rule(2, 400);
    due("0, though it was held down meanwhile", y.game(0), 0);
    JumpDiscs z = ready();
    idle(z, 3);
    putAll(z, 3, 41, 41);
    holdDown(z, 0, 10, 10, 5);
    z.put(3, 41, 41);
    z.put(7, 2, 30);
    due("3, whose all were in", z.game(0), 3);
  }

  private static void gameWhats() {
    says("Promise 9: 0 whose TURN (NONE: over), 1 TURNS gone, 2 rounds left (NONE), 3 1 over, 4 DISCS (0: over). BAD");
    JumpDiscs x = ready();
    for (int what : new int[] {MIN, -1, 5, MAX}) due("what " + what, x.game(what), BAD);
    x.put(4, 41, 41);
    x.put(9, 2, 2);
    due("not the COVERED one, not the one in THE CUP", x.game(4), 1 << 8 | 1 << 12);
    putAll(x, 1, 41, 41);
    int[] over = {NONE, 0, NONE, 1, 0};
    for (int what = 0; what <= 4; what++) due("over, " + what, x.game(what), over[what]);
    for (int what : new int[] {MIN, -1, 5, MAX}) due("over, what " + what, x.game(what), BAD);
  }

  public static void main(String[] args) { runAll(TurnEdgesTest.class); }
}
