import java.util.ArrayDeque;
import java.util.ArrayList;
import java.util.Deque;
import java.util.List;
import java.util.TreeSet;

/**
 * The document told a second time, as plainly as can be and without a thought for speed: every COVERS is
 * reckoned from places and from when a DISC came to lie, every row is played anew for every place.
 */
final class Plain {
  enum Where { BASE, LIES, CUP }

  static final class Disc {
    final int number;
    Where where = Where.BASE;
    int x, y;
    int since = 0;

    Disc(int number) { this.number = number; }
    int player() { return number % 4; }
    int side() { return number % 2; }
    int size() { return number <= 7 ? 1 : 2; }
    int atX() { return where == Where.CUP ? 41 : where == Where.LIES ? x : player() == 1 || player() == 2 ? 40 : 0; }
    int atY() { return where == Where.CUP ? 41 : where == Where.LIES ? y : player() >= 2 ? 40 : 0; }
    int wayTo(int toX, int toY) { return Math.max(Math.abs(toX - atX()), Math.abs(toY - atY())); }
  }

  /** All that is KEPT. */
  static final class Table {
    final List<Disc> discs = new ArrayList<>();
    int clock = 0, rough = 0, run = 0, time = 100, seed = 1, turn = 0, gone = 0;
    // -1 till TIME comes; then 6 ends of rounds are waited for: the one it came in, and five more.
    int endsToCome = -1;

    Table() { for (int d = 0; d < 16; d++) discs.add(new Disc(d)); }

    Table copy() {
      Table t = new Table();
      for (int d = 0; d < 16; d++) {
        Disc from = discs.get(d), to = t.discs.get(d);
        to.where = from.where; to.x = from.x; to.y = from.y; to.since = from.since;
      }
      t.clock = clock; t.rough = rough; t.run = run; t.time = time; t.seed = seed; t.turn = turn; t.gone = gone;
      t.endsToCome = endsToCome;
      return t;
    }

    boolean covers(Disc a, Disc b) {
      if (a == b || a.where != Where.LIES || b.where != Where.LIES || a.since < b.since) return false;
      int reach = a.size() + b.size();
      return (a.x - b.x) * (a.x - b.x) + (a.y - b.y) * (a.y - b.y) < reach * reach;
    }

    boolean free(Disc d) {
      if (d.where == Where.CUP) return false;
      return discs.stream().noneMatch(o -> covers(o, d));
    }

    TreeSet<Integer> pile(Disc d) {
      TreeSet<Integer> pile = new TreeSet<>();
      if (d.where != Where.LIES) return pile;
      Deque<Disc> open = new ArrayDeque<>(List.of(d));
      while (!open.isEmpty()) {
        Disc one = open.pop();
        if (!pile.add(one.number)) continue;
        for (Disc o : discs) if (covers(o, one) || covers(one, o)) open.push(o);
      }
      return pile;
    }

    boolean hasFree(int player) { return discs.stream().anyMatch(d -> d.player() == player && free(d)); }
    boolean allIn(int player) { return discs.stream().allMatch(d -> d.player() != player || d.where == Where.CUP); }

    boolean over() {
      boolean anyFree = false;
      for (int p = 0; p < 4; p++) {
        if (allIn(p)) return true;
        anyFree |= hasFree(p);
      }
      return !anyFree || endsToCome == 0;
    }

    void lay(Disc d, int x, int y) { d.where = Where.LIES; d.x = x; d.y = y; d.since = ++clock; }

    void place(Disc d, int x, int y) {
      if (x == -1) d.where = Where.BASE;
      else if (x == 41) d.where = Where.CUP;
      else lay(d, x, y);
    }

    int draw(int m) {
      seed = (int) ((long) seed * 48271 % 2147483647L);
      return seed % (2 * m + 1) - m;
    }

    void turnTaken(boolean potted) {
      gone++;
      if (gone >= time && endsToCome < 0) endsToCome = 6;
      boolean stays = potted;
      for (int steps = 0; !stays || !hasFree(turn); steps++) {
        if (steps > 4) throw new IllegalStateException("none has a free disc behind a shot");
        stays = true;
        goOn(true);
      }
    }

    void goOn(boolean endsRounds) {
      turn = turn == 3 ? 0 : turn + 1;
      if (endsRounds && turn == 0 && endsToCome > 0) endsToCome--;
    }

    void passOver() { while (!over() && !hasFree(turn)) goOn(false); }
    boolean allowed(Disc d) { return !over() && d.player() == turn && free(d); }

    int score(int p) {
      int sum = 0;
      for (Disc d : discs) {
        if (d.player() != p) continue;
        if (d.where == Where.CUP) sum += 3;
        if (d.where == Where.LIES && free(d)) sum++;
      }
      return sum;
    }

    int twelfths(int p) {
      int[] prize = {48, 24, 12, 0};
      List<Integer> order = new ArrayList<>(List.of(0, 1, 2, 3));
      order.sort((a, b) -> rank(b) - rank(a));
      int sum = 0, many = 0;
      for (int place = 0; place < 4; place++) {
        if (rank(order.get(place)) == rank(p)) { sum += prize[place]; many++; }
      }
      if (sum % many != 0) throw new IllegalStateException("not whole");
      return sum / many;
    }

    private int rank(int p) { return (allIn(p) ? 1000 : 0) + score(p); }

    int chance(Disc d, int aim) {
      int way = aim < 0 ? d.wayTo(20, 20) : d.wayTo(discs.get(aim).atX(), discs.get(aim).atY());
      int less = aim < 0 || d.size() == 2 ? way : 2 * way;
      return 36 - less < 1 ? 1 : 36 - less;
    }

    int gain(Disc d, int aim) {
      if (aim < 0) return d.where == Where.BASE ? 3 : 2;
      Disc it = discs.get(aim);
      int gain = it.wayTo(20, 20) <= 6 ? 2 : 1;
      for (Disc o : discs) if (o.side() == d.side() && covers(it, o)) gain++;
      return gain;
    }

    /** DISC, aim, CHANCE times GAIN; null: no FREE DISC. */
    int[] best(int player) {
      int[] best = null;
      for (int d = 0; d < 16; d++) {
        Disc own = discs.get(d);
        if (own.player() != player || !free(own)) continue;
        for (int aim = -1; aim < 16; aim++) {
          if (aim >= 0) {
            Disc it = discs.get(aim);
            if (it.side() == own.side() || it.where != Where.LIES || !free(it)) continue;
          }
          int worth = chance(own, aim) * gain(own, aim);
          if (best == null || worth > best[2]) best = new int[] {d, aim, worth};
        }
      }
      return best;
    }
  }

  Table t = new Table();
  final List<int[]> row = new ArrayList<>();
  final Deque<Table> kept = new ArrayDeque<>();
  final List<int[]> pairs = new ArrayList<>();

  static boolean in(int v, int low, int high) { return low <= v && v <= high; }
  static boolean onMat(int x, int y) { return in(x, 0, 40) && in(y, 0, 40); }
  static boolean markOrMat(int x, int y) { return onMat(x, y) || x == -1 && y == -1 || x == 41 && y == 41; }
  static int bits(Iterable<Integer> set) { int b = 0; for (int i : set) b += 1 << i; return b; }
  static int nearest(int v) { return v < 0 ? 0 : v > 40 ? 40 : v; }

  int anew() {
    int were = t.gone;
    for (Disc d : t.discs) d.where = Where.BASE;
    t.turn = 0; t.gone = 0; t.endsToCome = -1;
    return were;
  }

  int rule(int what, int v) {
    if (!in(what, 0, 2) || (what == 2 ? !in(v, 10, 400) : !in(v, 0, 5))) return -1;
    int was = what == 0 ? t.rough : what == 1 ? t.run : t.time;
    if (what == 0) t.rough = v;
    if (what == 1) t.run = v;
    if (what == 2) {
      if (v < t.gone) return -2;
      t.time = v;
      if (v > t.gone) { t.endsToCome = -1; t.passOver(); }
      else if (t.endsToCome < 0) t.endsToCome = 6;
    }
    return was;
  }

  int seed(int v) {
    if (!in(v, 1, 2147483646)) return -1;
    t.seed = v;
    return 0;
  }

  int put(int disc, int x, int y) {
    if (!in(disc, 0, 15) || !markOrMat(x, y)) return -1;
    t.place(t.discs.get(disc), x, y);
    t.passOver();
    return 0;
  }

  int about(int disc, int what) {
    if (!in(disc, 0, 15) || !in(what, 0, 6)) return -1;
    Disc d = t.discs.get(disc);
    switch (what) {
      case 0: return d.where.ordinal();
      case 1: return d.atX();
      case 2: return d.atY();
      case 3: return t.free(d) ? 1 : 0;
      case 4: return bits(t.discs.stream().filter(o -> t.covers(d, o)).map(o -> o.number).toList());
      case 5: return bits(t.discs.stream().filter(o -> t.covers(o, d)).map(o -> o.number).toList());
      default: return bits(t.pile(d));
    }
  }

  int shoot(int disc, int x, int y) {
    if (!in(disc, 0, 15) || !onMat(x, y)) return -1;
    Disc d = t.discs.get(disc);
    if (!t.allowed(d)) return -2;
    int signX = Integer.compare(x, d.atX()), signY = Integer.compare(y, d.atY());
    int m = d.wayTo(x, y) / 8 + d.size() - 1 + t.rough;
    int downX = x + t.draw(m), downY = y + t.draw(m);
    boolean in = (downX - 20) * (downX - 20) + (downY - 20) * (downY - 20) <= 4;
    if (in) d.where = Where.CUP;
    else t.lay(d, nearest(downX + t.run * signX), nearest(downY + t.run * signY));
    t.turnTaken(in);
    return in ? 1 : 0;
  }

  int blow(int disc) {
    if (!in(disc, 0, 15)) return -1;
    Disc d = t.discs.get(disc);
    TreeSet<Integer> pile = t.pile(d);
    if (!t.allowed(d) || pile.size() < 2) return -2;
    for (int one : pile) {
      Disc o = t.discs.get(one);
      int toX = nearest(o.x + t.draw(3));
      t.lay(o, toX, nearest(o.y + t.draw(3)));
    }
    t.turnTaken(false);
    return bits(pile);
  }

  int game(int what) {
    switch (what) {
      case 0: return t.over() ? -4 : t.turn;
      case 1: return t.gone;
      case 2: return t.endsToCome < 0 ? -4 : Math.min(5, t.endsToCome);
      case 3: return t.over() ? 1 : 0;
      case 4: return t.over() ? 0
          : bits(t.discs.stream().filter(d -> d.player() == t.turn && t.free(d)).map(d -> d.number).toList());
      default: return -1;
    }
  }

  int score(int p) { return in(p, 0, 3) ? t.score(p) : -1; }
  int twelfths(int p) { return in(p, 0, 3) ? t.twelfths(p) : -1; }

  int points(int side) {
    if (!in(side, 0, 1)) return -1;
    int sum = t.twelfths(side) + t.twelfths(side + 2);
    for (int p = 0; p < 4; p++) if (t.allIn(p)) sum += p % 2 == side ? 12 : -12;
    return sum;
  }

  int chance(int disc, int aim) {
    if (!in(disc, 0, 15) || !in(aim, -1, 15)) return -1;
    if (t.discs.get(disc).where == Where.CUP) return -2;
    if (aim >= 0 && (aim == disc || t.discs.get(aim).where != Where.LIES)) return -2;
    return t.chance(t.discs.get(disc), aim);
  }

  int best(int p, int what) {
    if (!in(p, 0, 3) || !in(what, 0, 2)) return -100;
    int[] best = t.best(p);
    return best == null ? -102 : best[what];
  }

  int ahead() {
    if (t.over()) return -10002;
    int next = (t.turn + 1) % 4;
    while (!t.hasFree(next)) next = (next + 1) % 4;
    return t.best(t.turn)[2] - t.best(next)[2];
  }

  int write(int disc, int x, int y) {
    if (!in(disc, 0, 15) || !markOrMat(x, y)) return -1;
    if (row.size() == 24) return -3;
    row.add(new int[] {disc, x, y});
    return row.size();
  }

  int wipe() {
    int were = row.size();
    row.clear();
    return were;
  }

  int wrong() {
    Table told = new Table();
    told.time = t.time;
    for (int i = 0; i < row.size(); i++) {
      int[] shot = row.get(i);
      Disc d = told.discs.get(shot[0]);
      if (!told.allowed(d)) return i;
      // A GAP: each so far from all others that nothing hangs together with it.
      if (shot[1] == -1) told.lay(d, 1000 * (i + 1), 0);
      else told.place(d, shot[1], shot[2]);
      told.turnTaken(shot[1] == 41);
    }
    return -4;
  }

  int canBe(int what) {
    if (!in(what, 0, 1)) return -1;
    List<int[]> gaps = row.stream().filter(s -> s[1] == -1).toList();
    if (gaps.size() != 1) return -2;
    int[] gap = gaps.get(0);
    int many = 0, first = -4;
    for (int place = 0; place <= 41 * 41; place++) {
      gap[1] = place == 41 * 41 ? 41 : place / 41;
      gap[2] = place == 41 * 41 ? 41 : place % 41;
      if (wrong() == -4) {
        if (many++ == 0) first = 100 * gap[1] + gap[2];
      }
    }
    gap[1] = -1;
    gap[2] = -1;
    return what == 0 ? many : first;
  }

  int seen(int p, int fromX, int fromY, int aimX, int aimY, int x, int y) {
    if (!in(p, 0, 3) || !onMat(fromX, fromY) || !onMat(aimX, aimY) || !onMat(x, y)) return -1;
    int way = Math.max(Math.abs(aimX - fromX), Math.abs(aimY - fromY));
    pairs.add(new int[] {p, way == 40 ? 4 : way / 8, Math.abs(x - aimX) + Math.abs(y - aimY)});
    return (int) pairs.stream().filter(s -> s[0] == p).count();
  }

  int scatter(int p, int k, int what) {
    if (!in(p, 0, 3) || !in(k, 0, 4) || !in(what, 0, 2)) return -1;
    List<int[]> those = pairs.stream().filter(s -> s[0] == p && s[1] == k).toList();
    int many = those.size(), sum = those.stream().mapToInt(s -> s[2]).sum();
    if (what == 2) return many;
    if (many == 0) return -2;
    int common = many;
    while (sum % common != 0 || many % common != 0) common--;
    return (what == 0 ? sum : many) / common;
  }

  int keep() {
    if (kept.size() == 3) return -3;
    kept.push(t.copy());
    return kept.size();
  }

  int back() {
    if (kept.isEmpty()) return -2;
    t = kept.pop();
    return kept.size();
  }

  int count(int what) {
    switch (what) {
      case 0: case 1: case 2: return (int) t.discs.stream().filter(d -> d.where.ordinal() == what).count();
      case 3: return row.size();
      case 4: return kept.size();
      case 5: return (int) t.discs.stream().filter(d -> d.where == Where.LIES && !t.free(d)).count();
      default: return -1;
    }
  }
}
