/**
 * Discs that jump: a mat with a cup, sixteen discs of four players, their shots, points, best shots,
 * written rows of shots, scatter and kept boards. The words in capitals are those of the document.
 */
public final class JumpDiscs {
    public static final int BAD = -1, NO = -2, FULL = -3, NONE = -4;

    private static final int PLAYERS = 4;
    private static final int DISCS = 16;
    private static final int DISCS_OF_EACH = 4;
    private static final int SMALL_DISCS = 8;
    private static final int DISCS_OF_PLAYER_0 = 0x1111;
    private static final int DISCS_OF_SIDE_0 = 0x5555;

    private static final int MAT_END = 40;
    private static final int CUP_AT = 20;
    private static final int CUP_REACH_SQUARED = 4;
    private static final int TO_BASE = -1;
    private static final int TO_CUP = 41;

    private static final int RULE_MOST = 5;
    private static final int TIME_LEAST = 10;
    private static final int TIME_MOST = 400;
    private static final int TIME_AT_FIRST = 100;
    private static final int ROUNDS_MORE = 5;
    private static final long SEED_FACTOR = 48271L;
    private static final long SEED_MODULUS = 2147483647L;
    private static final int BLOWN_SPREAD = 3;
    private static final int WAYS_OF_A_KIND = 8;

    private static final int CHANCE_WHOLE = 36;
    private static final int NEAR_CUP = 6;
    private static final int POT = -1;
    private static final int BEST_BAD = -100;
    private static final int BEST_NO = -102;
    private static final int AHEAD_NO = -10002;

    private static final int SHOTS_MOST = 24;
    // Two LARGE DISCS that are this far apart by x or by y COVER no more.
    private static final int WIDEST_COVER = 4;
    private static final int KEPT_MOST = 3;
    private static final int KINDS = 5;
    private static final int SEEN_MOST = 1000;

    private static final int[] BASE_X = {0, 40, 40, 0};
    private static final int[] BASE_Y = {0, 0, 40, 40};
    private static final int[] PLACE_TWELFTHS = {48, 24, 12, 0};

    private final Game now = new Game();
    private final Adviser adviser = new Adviser();
    private final Row row = new Row();
    private final Scatter seenPairs = new Scatter();
    private final Game[] kept = new Game[KEPT_MOST];
    private int keptCount = 0;

    public JumpDiscs() {
        for (int i = 0; i < KEPT_MOST; i++) {
            kept[i] = new Game();
        }
    }

    public int anew() {
        int turns = now.turnsGone;
        now.beginAnew();
        return turns;
    }

    public int rule(int what, int v) {
        switch (what) {
            case 0:
                return within(v, 0, RULE_MOST) ? now.changeRough(v) : BAD;
            case 1:
                return within(v, 0, RULE_MOST) ? now.changeRun(v) : BAD;
            case 2:
                return within(v, TIME_LEAST, TIME_MOST) ? now.changeTime(v) : BAD;
            default:
                return BAD;
        }
    }

    public int seed(int v) {
        if (v < 1 || v >= SEED_MODULUS) {
            return BAD;
        }
        now.seedNow = v;
        return 0;
    }

    public int put(int disc, int x, int y) {
        if (!isDisc(disc) || !isMarkOrPlace(x, y)) {
            return BAD;
        }
        now.board.bring(disc, x, y);
        now.passOverWithoutRounds();
        return 0;
    }

    public int about(int disc, int what) {
        if (!isDisc(disc)) {
            return BAD;
        }
        Board board = now.board;
        switch (what) {
            case 0:
                return board.isInCup(disc) ? 2 : board.doesLie(disc) ? 1 : 0;
            case 1:
                return board.xs[disc];
            case 2:
                return board.ys[disc];
            case 3:
                return board.isFree(disc) ? 1 : 0;
            case 4:
                return board.coveredBy(disc);
            case 5:
                return board.coverers[disc];
            case 6:
                return board.pileOf(disc);
            default:
                return BAD;
        }
    }

    public int shoot(int disc, int x, int y) {
        if (!isDisc(disc) || !isPlace(x, y)) {
            return BAD;
        }
        if (!now.mayPlay(disc)) {
            return NO;
        }
        return now.playShot(disc, x, y) ? 1 : 0;
    }

    public int blow(int disc) {
        if (!isDisc(disc)) {
            return BAD;
        }
        int pile = now.board.pileOf(disc);
        if (!now.mayPlay(disc) || Integer.bitCount(pile) < 2) {
            return NO;
        }
        now.blowApart(pile);
        return pile;
    }

    public int game(int what) {
        boolean over = now.isOver();
        switch (what) {
            case 0:
                return over ? NONE : now.turn;
            case 1:
                return now.turnsGone;
            case 2:
                return now.roundsLeft();
            case 3:
                return over ? 1 : 0;
            case 4:
                return over ? 0 : now.board.freeOf(now.turn);
            default:
                return BAD;
        }
    }

    public int score(int player) {
        return isPlayer(player) ? now.board.scoreOf(player) : BAD;
    }

    public int twelfths(int player) {
        return isPlayer(player) ? twelfthsOf(player) : BAD;
    }

    public int points(int side) {
        if (side != 0 && side != 1) {
            return BAD;
        }
        int sum = 0;
        for (int player = 0; player < PLAYERS; player++) {
            boolean own = player % 2 == side;
            if (own) {
                sum += twelfthsOf(player);
            }
            if (now.board.isAllIn(player)) {
                sum += own ? 12 : -12;
            }
        }
        return sum;
    }

    public int chance(int disc, int aim) {
        if (!isDisc(disc) || (aim != POT && !isDisc(aim))) {
            return BAD;
        }
        Board board = now.board;
        if (board.isInCup(disc) || aim == disc || (aim != POT && !board.doesLie(aim))) {
            return NO;
        }
        return Adviser.chanceOf(board, disc, aim);
    }

    public int best(int player, int what) {
        if (!isPlayer(player) || !within(what, 0, 2)) {
            return BEST_BAD;
        }
        int worth = adviser.worthOfBest(now.board, player);
        if (worth == 0) {
            return BEST_NO;
        }
        return what == 0 ? adviser.disc : what == 1 ? adviser.aim : worth;
    }

    public int ahead() {
        if (now.isOver()) {
            return AHEAD_NO;
        }
        int own = adviser.worthOfBest(now.board, now.turn);
        return own - adviser.worthOfBest(now.board, now.playerBehind());
    }

    public int write(int disc, int x, int y) {
        if (!isDisc(disc) || !isMarkOrPlace(x, y)) {
            return BAD;
        }
        return row.add(disc, x, y);
    }

    public int wipe() {
        return row.clear();
    }

    public int wrong() {
        return row.firstWrong(now.time);
    }

    public int canBe(int what) {
        if (what != 0 && what != 1) {
            return BAD;
        }
        int gap = row.onlyGap();
        if (gap == NONE) {
            return NO;
        }
        row.findPlaces(gap, now.time);
        return what == 0 ? row.placesFound : row.firstFound;
    }

    public int seen(int player, int fromX, int fromY, int aimX, int aimY, int x, int y) {
        if (!isPlayer(player) || !isPlace(fromX, fromY) || !isPlace(aimX, aimY) || !isPlace(x, y)) {
            return BAD;
        }
        int offs = Math.abs(x - aimX) + Math.abs(y - aimY);
        return seenPairs.add(player, wayBetween(fromX, fromY, aimX, aimY), offs);
    }

    public int scatter(int player, int k, int what) {
        if (!isPlayer(player) || !within(k, 0, KINDS - 1) || !within(what, 0, 2)) {
            return BAD;
        }
        return seenPairs.tell(player, k, what);
    }

    public int keep() {
        if (keptCount >= KEPT_MOST) {
            return FULL;
        }
        kept[keptCount].copyFrom(now);
        keptCount++;
        return keptCount;
    }

    public int back() {
        if (keptCount <= 0) {
            return NO;
        }
        keptCount--;
        now.copyFrom(kept[keptCount]);
        return keptCount;
    }

    public int count(int what) {
        Board board = now.board;
        switch (what) {
            case 0:
                return DISCS - Integer.bitCount(board.lying) - Integer.bitCount(board.inCup);
            case 1:
                return Integer.bitCount(board.lying);
            case 2:
                return Integer.bitCount(board.inCup);
            case 3:
                return row.size;
            case 4:
                return keptCount;
            case 5:
                return Integer.bitCount(board.covered);
            default:
                return BAD;
        }
    }

    /** SCORE alone tells PLACES: a player with all DISCS in has 12, any other 10 at most. */
    private int twelfthsOf(int player) {
        int own = now.board.scoreOf(player);
        int better = 0;
        int alike = 0;
        for (int other = 0; other < PLAYERS; other++) {
            int theirs = now.board.scoreOf(other);
            if (theirs > own) {
                better++;
            } else if (theirs == own) {
                alike++;
            }
        }
        int shared = 0;
        for (int place = better; place < better + alike && place < PLAYERS; place++) {
            shared += PLACE_TWELFTHS[place];
        }
        return alike == 0 ? 0 : shared / alike;
    }

    private static boolean within(int v, int least, int most) {
        return v >= least && v <= most;
    }

    private static boolean isPlayer(int player) {
        return within(player, 0, PLAYERS - 1);
    }

    private static boolean isDisc(int disc) {
        return within(disc, 0, DISCS - 1);
    }

    private static boolean isPlace(int x, int y) {
        return within(x, 0, MAT_END) && within(y, 0, MAT_END);
    }

    /** A place on THE MAT, or one of the two marks: -1, -1 and 41, 41. */
    private static boolean isMarkOrPlace(int x, int y) {
        return isPlace(x, y) || (x == y && (x == TO_BASE || x == TO_CUP));
    }

    private static int playerOf(int disc) {
        return disc % PLAYERS;
    }

    private static int sizeOf(int disc) {
        return disc < SMALL_DISCS ? 1 : 2;
    }

    private static int wayBetween(int x, int y, int toX, int toY) {
        return Math.max(Math.abs(toX - x), Math.abs(toY - y));
    }

    /** Where the DISCS are and which COVERS which. */
    private static final class Board {
        private final int[] xs = new int[DISCS];
        private final int[] ys = new int[DISCS];
        // As bits. A DISC that comes to lie is last of all, so it COVERS just what LIES under it then: no
        // order of lying need be kept.
        private final int[] coverers = new int[DISCS];
        private int lying = 0;
        private int inCup = 0;
        private int covered = 0;

        Board() {
            bringAllToBase();
        }

        void bringAllToBase() {
            for (int disc = 0; disc < DISCS; disc++) {
                bring(disc, TO_BASE, TO_BASE);
            }
        }

        void copyFrom(Board other) {
            System.arraycopy(other.xs, 0, xs, 0, DISCS);
            System.arraycopy(other.ys, 0, ys, 0, DISCS);
            System.arraycopy(other.coverers, 0, coverers, 0, DISCS);
            lying = other.lying;
            inCup = other.inCup;
            covered = other.covered;
        }

        /** To a place on THE MAT, last of all, or by a mark to BASE or into THE CUP. */
        void bring(int disc, int x, int y) {
            lift(disc);
            if (x == TO_BASE) {
                xs[disc] = BASE_X[playerOf(disc)];
                ys[disc] = BASE_Y[playerOf(disc)];
                return;
            }
            xs[disc] = x;
            ys[disc] = y;
            if (x == TO_CUP) {
                inCup |= 1 << disc;
                return;
            }
            for (int other = 0; other < DISCS; other++) {
                if (doesLie(other) && isOverlap(disc, other)) {
                    coverers[other] |= 1 << disc;
                    covered |= 1 << other;
                }
            }
            lying |= 1 << disc;
        }

        private void lift(int disc) {
            int others = ~(1 << disc);
            inCup &= others;
            if (!doesLie(disc)) {
                return;
            }
            lying &= others;
            coverers[disc] = 0;
            covered = 0;
            for (int other = 0; other < DISCS; other++) {
                coverers[other] &= others;
                if (coverers[other] != 0) {
                    covered |= 1 << other;
                }
            }
        }

        private boolean isOverlap(int disc, int other) {
            int acrossX = xs[disc] - xs[other];
            int acrossY = ys[disc] - ys[other];
            int sizes = sizeOf(disc) + sizeOf(other);
            return acrossX * acrossX + acrossY * acrossY < sizes * sizes;
        }

        boolean doesLie(int disc) {
            return (lying & 1 << disc) != 0;
        }

        boolean isInCup(int disc) {
            return (inCup & 1 << disc) != 0;
        }

        boolean isAtBase(int disc) {
            return !doesLie(disc) && !isInCup(disc);
        }

        boolean isFree(int disc) {
            return ((inCup | covered) & 1 << disc) == 0;
        }

        int coveredBy(int disc) {
            int bits = 0;
            for (int other = 0; other < DISCS; other++) {
                if ((coverers[other] & 1 << disc) != 0) {
                    bits |= 1 << other;
                }
            }
            return bits;
        }

        int pileOf(int disc) {
            if (!doesLie(disc)) {
                return 0;
            }
            int pile = 1 << disc;
            for (int pass = 0; pass < DISCS; pass++) {
                pile = withNeighbours(pile);
            }
            return pile;
        }

        private int withNeighbours(int pile) {
            int grown = pile;
            for (int disc = 0; disc < DISCS; disc++) {
                if ((grown & 1 << disc) != 0) {
                    grown |= coverers[disc];
                } else if ((grown & coverers[disc]) != 0) {
                    grown |= 1 << disc;
                }
            }
            return grown;
        }

        int freeOf(int player) {
            return DISCS_OF_PLAYER_0 << player & ~(inCup | covered);
        }

        boolean isAllIn(int player) {
            int own = DISCS_OF_PLAYER_0 << player;
            return (inCup & own) == own;
        }

        /** DISCS of one player are four bits apart. */
        boolean isAnyoneAllIn() {
            return (inCup & inCup >> 4 & inCup >> 8 & inCup >> 12) != 0;
        }

        int scoreOf(int player) {
            int own = DISCS_OF_PLAYER_0 << player;
            return 3 * Integer.bitCount(inCup & own) + Integer.bitCount(freeOf(player) & lying);
        }
    }

    /** A board with its rules, SEED and TURNS: all that is KEPT. */
    private static final class Game {
        private final Board board = new Board();
        private int rough = 0;
        private int run = 0;
        private int time = TIME_AT_FIRST;
        private long seedNow = 1;
        private int turn = 0;
        private int turnsGone = 0;
        // Since TIME has come: that in which it came is the first of them.
        private int roundsEnded = 0;

        void beginAnew() {
            board.bringAllToBase();
            turn = 0;
            turnsGone = 0;
            roundsEnded = 0;
        }

        void copyFrom(Game other) {
            board.copyFrom(other.board);
            rough = other.rough;
            run = other.run;
            time = other.time;
            seedNow = other.seedNow;
            turn = other.turn;
            turnsGone = other.turnsGone;
            roundsEnded = other.roundsEnded;
        }

        int changeRough(int v) {
            int was = rough;
            rough = v;
            return was;
        }

        int changeRun(int v) {
            int was = run;
            run = v;
            return was;
        }

        int changeTime(int v) {
            if (v < turnsGone) {
                return NO;
            }
            int was = time;
            time = v;
            if (!isTimeCome()) {
                roundsEnded = 0;
                passOverWithoutRounds();
            }
            return was;
        }

        boolean isTimeCome() {
            return turnsGone >= time;
        }

        int roundsLeft() {
            if (!isTimeCome()) {
                return NONE;
            }
            return roundsEnded == 0 ? ROUNDS_MORE : ROUNDS_MORE + 1 - roundsEnded;
        }

        /**
         * That none of the four has a FREE DISC is not asked: the DISC that came to lie last is FREE,
         * so then all are in THE CUP.
         */
        boolean isOver() {
            return roundsEnded > ROUNDS_MORE || board.isAnyoneAllIn();
        }

        boolean mayPlay(int disc) {
            return playerOf(disc) == turn && board.isFree(disc) && !isOver();
        }

        /** Whether THE CUP took it. */
        boolean playShot(int disc, int aimX, int aimY) {
            int fromX = board.xs[disc];
            int fromY = board.ys[disc];
            int spread = wayBetween(fromX, fromY, aimX, aimY) / WAYS_OF_A_KIND + sizeOf(disc) - 1 + rough;
            int x = aimX + drawOff(spread);
            int y = aimY + drawOff(spread);
            boolean potted = doesCupTake(x, y);
            if (potted) {
                board.bring(disc, TO_CUP, TO_CUP);
            } else {
                int ranX = x + run * signOf(aimX - fromX);
                int ranY = y + run * signOf(aimY - fromY);
                board.bring(disc, nearestOnMat(ranX), nearestOnMat(ranY));
            }
            endTurn(potted);
            return potted;
        }

        void blowApart(int pile) {
            for (int disc = 0; disc < DISCS; disc++) {
                if ((pile & 1 << disc) != 0) {
                    int x = board.xs[disc] + drawOff(BLOWN_SPREAD);
                    int y = board.ys[disc] + drawOff(BLOWN_SPREAD);
                    board.bring(disc, nearestOnMat(x), nearestOnMat(y));
                }
            }
            endTurn(false);
        }

        /**
         * A SHOT as it was written; false: it could not be. A GAP is told as a DISC at BASE, which is
         * FREE, COVERS nothing and is COVERED by nothing.
         */
        boolean follow(int disc, int x, int y) {
            if (!mayPlay(disc)) {
                return false;
            }
            board.bring(disc, x, y);
            endTurn(x == TO_CUP);
            return true;
        }

        /**
         * The TURN goes on by a SHOT that ends THE GAME as by any other: put() and rule() may let it go on
         * from there. One of the four always has a FREE DISC then, as none but the shooter can be all in.
         */
        private void endTurn(boolean oneMore) {
            turnsGone++;
            if (!oneMore) {
                stepTurn();
            }
            for (int i = 0; i < PLAYERS && board.freeOf(turn) == 0; i++) {
                stepTurn();
            }
        }

        private void stepTurn() {
            turn = nextInRound(turn);
            if (turn == 0 && isTimeCome()) {
                roundsEnded++;
            }
        }

        /** Here, behind put() and rule(), the TURN stays while THE GAME is over. */
        void passOverWithoutRounds() {
            for (int i = 0; i < PLAYERS && !isOver() && board.freeOf(turn) == 0; i++) {
                turn = nextInRound(turn);
            }
        }

        /** Whose TURN it would be behind one without a POT; it may be the same player. */
        int playerBehind() {
            int player = nextInRound(turn);
            for (int i = 0; i < PLAYERS && board.freeOf(player) == 0; i++) {
                player = nextInRound(player);
            }
            return player;
        }

        private int drawOff(int spread) {
            seedNow = seedNow * SEED_FACTOR % SEED_MODULUS;
            return (int) (seedNow % (2 * spread + 1)) - spread;
        }

        private static int nextInRound(int player) {
            return (player + 1) % PLAYERS;
        }

        private static boolean doesCupTake(int x, int y) {
            int offX = x - CUP_AT;
            int offY = y - CUP_AT;
            return offX * offX + offY * offY <= CUP_REACH_SQUARED;
        }

        private static int nearestOnMat(int v) {
            return Math.max(0, Math.min(MAT_END, v));
        }

        private static int signOf(int v) {
            return v > 0 ? 1 : v < 0 ? -1 : 0;
        }
    }

    /** THE BEST SHOT, found anew for each asking. */
    private static final class Adviser {
        private int disc = 0;
        private int aim = POT;
        private int worth = 0;

        /** CHANCE times GAIN; 0: the player has no FREE DISC. */
        int worthOfBest(Board board, int player) {
            worth = 0;
            for (int i = 0; i < DISCS_OF_EACH; i++) {
                int own = player + PLAYERS * i;
                if (board.isFree(own)) {
                    weighAims(board, own);
                }
            }
            return worth;
        }

        private void weighAims(Board board, int own) {
            weigh(board, own, POT);
            for (int other = 0; other < DISCS; other++) {
                boolean otherSide = (other - own) % 2 != 0;
                if (otherSide && board.doesLie(other) && board.isFree(other)) {
                    weigh(board, own, other);
                }
            }
        }

        /** Of several alike the first weighed stays: the lowest DISC, POT, the lowest aim. */
        private void weigh(Board board, int own, int other) {
            int product = chanceOf(board, own, other) * gainOf(board, own, other);
            if (product > worth) {
                disc = own;
                aim = other;
                worth = product;
            }
        }

        static int chanceOf(Board board, int own, int other) {
            if (other == POT) {
                return Math.max(1, CHANCE_WHOLE - wayToCup(board, own));
            }
            int way = wayBetween(board.xs[own], board.ys[own], board.xs[other], board.ys[other]);
            return Math.max(1, CHANCE_WHOLE - (own < SMALL_DISCS ? 2 * way : way));
        }

        private static int gainOf(Board board, int own, int other) {
            if (other == POT) {
                return board.isAtBase(own) ? 3 : 2;
            }
            int near = wayToCup(board, other) <= NEAR_CUP ? 1 : 0;
            int ownSide = DISCS_OF_SIDE_0 << own % 2;
            return 1 + near + Integer.bitCount(board.coveredBy(other) & ownSide);
        }

        private static int wayToCup(Board board, int which) {
            return wayBetween(board.xs[which], board.ys[which], CUP_AT, CUP_AT);
        }
    }

    /** A ROW of SHOTS, and what can be told of it against all DISCS at BASE. */
    private static final class Row {
        private final int[] discs = new int[SHOTS_MOST];
        private final int[] xs = new int[SHOTS_MOST];
        private final int[] ys = new int[SHOTS_MOST];
        private int size = 0;
        private int placesFound = 0;
        private int firstFound = NONE;
        // The TIME that places were last found by; NONE: the row is another since.
        private int foundByTime = NONE;
        private final Game upToGap = new Game();
        private final Game trial = new Game();

        int add(int disc, int x, int y) {
            if (size >= SHOTS_MOST) {
                return FULL;
            }
            discs[size] = disc;
            xs[size] = x;
            ys[size] = y;
            size++;
            foundByTime = NONE;
            return size;
        }

        int clear() {
            int were = size;
            size = 0;
            foundByTime = NONE;
            return were;
        }

        int firstWrong(int time) {
            startOver(trial, time);
            return firstWrongIn(trial, 0, size);
        }

        /** The number of the one GAP; NONE: there is none, or there are more. */
        int onlyGap() {
            int gap = NONE;
            for (int i = 0; i < size && i < SHOTS_MOST; i++) {
                if (xs[i] == TO_BASE) {
                    if (gap != NONE) {
                        return NONE;
                    }
                    gap = i;
                }
            }
            return gap;
        }

        /**
         * What goes ahead of the GAP is followed once, and what comes behind it once for all places that
         * are far from each written one: only a place near to one can COVER or be COVERED.
         */
        void findPlaces(int gap, int time) {
            if (foundByTime == time) {
                return;
            }
            foundByTime = time;
            placesFound = 0;
            firstFound = NONE;
            startOver(upToGap, time);
            if (firstWrongIn(upToGap, 0, gap) != NONE) {
                return;
            }
            boolean farCan = canComeTo(gap, TO_BASE, TO_BASE);
            for (int x = 0; x <= MAT_END; x++) {
                for (int y = 0; y <= MAT_END; y++) {
                    if (isNearWritten(x, y) ? canComeTo(gap, x, y) : farCan) {
                        countPlace(x, y);
                    }
                }
            }
            if (canComeTo(gap, TO_CUP, TO_CUP)) {
                countPlace(TO_CUP, TO_CUP);
            }
        }

        private boolean isNearWritten(int x, int y) {
            for (int i = 0; i < size && i < SHOTS_MOST; i++) {
                if (wayBetween(x, y, xs[i], ys[i]) < WIDEST_COVER) {
                    return true;
                }
            }
            return false;
        }

        private boolean canComeTo(int gap, int x, int y) {
            trial.copyFrom(upToGap);
            return trial.follow(discs[gap], x, y) && firstWrongIn(trial, gap + 1, size) == NONE;
        }

        private void countPlace(int x, int y) {
            if (placesFound == 0) {
                firstFound = 100 * x + y;
            }
            placesFound++;
        }

        private static void startOver(Game told, int time) {
            told.beginAnew();
            told.time = time;
        }

        private int firstWrongIn(Game told, int from, int end) {
            for (int i = from; i < end && i < SHOTS_MOST; i++) {
                if (!told.follow(discs[i], xs[i], ys[i])) {
                    return i;
                }
            }
            return NONE;
        }
    }

    /** Told pairs of aim and coming, summed by players and kinds of WAY. */
    private static final class Scatter {
        private final int[] howMany = new int[PLAYERS * KINDS];
        private final int[] offSums = new int[PLAYERS * KINDS];
        private final int[] ofPlayer = new int[PLAYERS];

        int add(int player, int way, int offs) {
            if (ofPlayer[player] >= SEEN_MOST) {
                return FULL;
            }
            // The longest WAY, 40, is of the last of the five kinds.
            int kind = Math.min(KINDS - 1, way / WAYS_OF_A_KIND);
            howMany[player * KINDS + kind]++;
            offSums[player * KINDS + kind] += offs;
            ofPlayer[player]++;
            return ofPlayer[player];
        }

        int tell(int player, int kind, int what) {
            int many = howMany[player * KINDS + kind];
            int sum = offSums[player * KINDS + kind];
            if (what == 2) {
                return many;
            }
            int divisor = commonDivisor(sum, many);
            if (many == 0 || divisor == 0) {
                return NO;
            }
            return (what == 0 ? sum : many) / divisor;
        }

        /** Fewer than forty steps of Euclid's do for any two ints that were summed here. */
        private static int commonDivisor(int a, int b) {
            int whole = a;
            int part = b;
            for (int i = 0; i < 100 && part != 0; i++) {
                int rest = whole % part;
                whole = part;
                part = rest;
            }
            return whole;
        }
    }
}
