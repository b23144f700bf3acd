/**
 * Players who strike piles of beer mats up from the edge of a table and catch them.
 * The words in capitals are those of the document (../shared/DOC.md).
 */
public final class MatFlip {
    public static final int NONE = -1, BAD = -2, STATE = -3, FULL = -4;
    /** There is no such number. */
    public static final long NO = Long.MIN_VALUE;

    private static final int NOWHERE = -5, ANOTHER_KIND = -6;
    /** In place of a player: all of them, or all rows. */
    private static final int ALL = -1;
    private static final int NO_SUCH_PILE = -1001, BAD_PILE = -1002;
    private static final int PLAYERS = 6, INNS = 5, TAPE = 100, SEEN = 8, BOOK = 8;
    private static final int KINDS = 7, MATS = 99, FORCES = 20, DRAWS = 10, SKILLS = 20, GLASSES = 9;
    private static final int LAST_TRY = 9999, TRACED = 20;
    private static final int PLANNED = 3, PILES = 12, PILE_STEP = 5, APART = 5;
    private static final int MORE_TRIES = 6, RAISE_TRIES = 8, TITLE_TRIES = 4, RECORD_TRIES = 9;

    private final World now = new World(), kept = new World();
    private final Pile pile = new Pile();
    /** How many bodies ran, and behind that the first of them: every player writes into this one. */
    private final int[] trace = new int[1 + TRACED];
    private final int[] mosts = new int[PLAYERS], points = new int[PLAYERS];
    /** ODDS of BEST for PLAN: PILES of them for each time that SKILL may have risen. */
    private final int[] planOdds = new int[PLANNED * PILES];
    private boolean hasImage;

    /** Nobody, no INN. */
    public MatFlip() {
    }

    // ---- inns, players

    public int feed(int sign) {
        if (isOut(sign, 0, 127)) return BAD;
        if (now.tapeSize >= TAPE) return FULL;
        now.tape[now.tapeSize] = sign;
        now.tapeSize++;
        return now.tapeSize;
    }

    public int inn() {
        if (now.innCount >= INNS) return FULL;
        Reader reader = new Reader(now.tape, now.tapeSize);
        Inn inn = reader.read();
        now.tapeSize = 0;
        if (inn == null) return -10 - reader.fault;
        now.inns[now.innCount] = inn;
        now.innCount++;
        return now.innCount - 1;
    }

    public int player(int kind, int v, int skill, int hand, int purse) {
        if (isOut(kind, 0, KINDS - 1)) return NONE;
        if (isOut(v, 0, 9) || isOut(skill, 0, SKILLS) || isOut(hand, 1, 9) || isOut(purse, 0, 9999)) return BAD;
        if (now.playerCount >= PLAYERS) return FULL;
        Player p = Player.ofKind(kind, trace);
        p.number = now.playerCount;
        p.v = v;
        p.skill = skill;
        p.hand = hand;
        p.purse = purse;
        now.players[now.playerCount] = p;
        now.playerCount++;
        return p.number;
    }

    public int of(int player, int what) {
        Player p = find(player);
        if (p == null) return NONE;
        switch (what) {
            case 0: return p.kind;
            case 1: return p.v;
            case 2: return p.skill;
            case 3: return p.hand;
            case 4: return p.glasses;
            case 5: return p.score;
            case 6: return p.purse;
            case 7: return p.unsureBy(p.skill, p.glasses);
            default: return NONE;
        }
    }

    public int set(int player, int what, int n) {
        Player p = find(player);
        if (p == null || isOut(what, 0, 2)) return NONE;
        if (isOut(n, 0, what == 0 ? SKILLS : what == 1 ? GLASSES : MATS)) return BAD;
        int was;
        if (what == 0) {
            was = p.skill;
            p.skill = n;
        } else if (what == 1) {
            was = p.glasses;
            p.glasses = n;
        } else {
            was = p.score;
            p.score = n;
        }
        return was;
    }

    public int row(int player, int k, int n) {
        Player p = find(player);
        if (p == null || isOut(k, 0, 3)) return NONE;
        if (isOut(n, 0, 9)) return BAD;
        if (p instanceof Told told) {
            int was = told.turns[k];
            told.turns[k] = n;
            return was;
        }
        return STATE;
    }

    public int told(int what) {
        switch (what) {
            case 0: return now.tries;
            case 1: return now.holding().wide;
            case 2: return now.holding().pay;
            default: return NONE;
        }
    }

    public int pile(int player, int n, int force, int what) {
        Player p = find(player);
        if (p == null || isOut(what, 0, 1)) return NO_SUCH_PILE;
        if (isNoPile(n) || isNoForce(force)) return BAD_PILE;
        lay(p, n);
        return what == 0 ? pile.turnBy(force) : pile.opens;
    }

    public int would(int player, int n, int force, int draw) {
        Player p = find(player);
        if (p == null) return NONE;
        if (isNoPile(n) || isNoForce(force) || isNoDraw(draw)) return BAD;
        lay(p, n);
        return pile.caughtBy(force, draw);
    }

    public int go(int player, int n, int force, int draw) {
        Player p = find(player);
        if (p == null) return NONE;
        if (isNoPile(n) || isNoForce(force) || isNoDraw(draw)) return BAD;
        if (now.tries >= LAST_TRY) return STATE;
        lay(p, n);
        int caught = pile.caughtBy(force, draw);
        p.hasTried(n, caught, now.holding().pay);
        now.tries++;
        return caught;
    }

    // ---- odds of tries; part 0 above, 1 below the line

    public int odds(int player, int n, int force) {
        Player p = find(player);
        if (p == null) return NONE;
        if (isNoPile(n) || isNoForce(force)) return BAD;
        lay(p, n);
        return pile.oddsBy(force);
    }

    public long mean(int player, int n, int force, int part) {
        Player p = find(player);
        if (p == null || isNoPile(n) || isNoForce(force) || isNoPart(part)) return NO;
        lay(p, n);
        return lowest(pile.caughtByAllDraws(force), DRAWS, part);
    }

    public int best(int player, int n, int what) {
        Player p = find(player);
        if (p == null || isOut(what, 0, 1)) return NONE;
        if (isNoPile(n)) return BAD;
        lay(p, n);
        return what == 0 ? pile.bestForce() : pile.bestOdds();
    }

    public int most(int player) {
        Player p = find(player);
        if (p == null) return NONE;
        return mostBy(p, p.glasses);
    }

    public int learns(int player) {
        Player p = find(player);
        if (p == null) return NONE;
        int learnt = NONE, most = NONE;
        for (int n = Math.max(1, p.score - APART); n <= Math.min(MATS, p.score + APART); n++) {
            lay(p, n);
            int odds = pile.bestOdds();
            if (odds >= most) {
                learnt = n;
                most = odds;
            }
        }
        return learnt;
    }

    public long plan(int player, int tries, int part) {
        Player p = find(player);
        if (p == null || isOut(tries, 1, PLANNED) || isNoPart(part)) return NO;
        fillPlanOdds(p, tries);
        return lowest(planned(p.score, 0, tries), tenths(tries), part);
    }

    public int first(int player, int tries) {
        Player p = find(player);
        if (p == null) return NONE;
        if (isOut(tries, 1, PLANNED)) return BAD;
        fillPlanOdds(p, tries);
        long missed = planned(p.score, 0, tries - 1), most = -1;
        int chosen = 0;
        for (int k = 0; k < PILES; k++) {
            long mean = plannedBy(k, p.score, 0, tries, missed);
            if (mean > most) {
                most = mean;
                chosen = k;
            }
        }
        return matsOf(chosen);
    }

    // ---- two players

    public long more(int one, int other, int tries, int part) {
        Player p = find(one), q = find(other);
        if (p == null || q == null || one == other || isOut(tries, 1, MORE_TRIES) || isNoPart(part)) return NO;
        lay(p, oneMoreThan(q));
        long missed = 1;
        for (int t = 0; t < tries; t++) missed *= DRAWS - pile.bestOdds();
        return lowest(tenths(tries) - missed, tenths(tries), part);
    }

    public int record(int player, int n) {
        Player p = find(player);
        if (p == null) return NONE;
        if (isNoPile(n)) return BAD;
        lay(p, n);
        long misses = DRAWS - pile.bestOdds(), missed = 1;
        // One DRAW of ten does by 7 TRIES: whom RECORD_TRIES don't suffice has none.
        for (int t = 1; t <= RECORD_TRIES; t++) {
            missed *= misses;
            if (2 * missed <= tenths(t)) return t;
        }
        return NOWHERE;
    }

    public long raise(int one, int other, int n, int tries, int what, int part) {
        Player p = find(one), q = find(other);
        if (p == null || q == null || one == other) return NO;
        if (isNoPile(n) || isOut(tries, 1, RAISE_TRIES) || isOut(what, 0, 1) || isNoPart(part)) return NO;
        return lowest(raised(p, q, n, tries, what), tenths(tries), part);
    }

    public int wager(int one, int other, int stake) {
        Player p = find(one), q = find(other);
        if (p == null || q == null) return NONE;
        if (one == other || isOut(stake, 0, 999)) return BAD;
        lay(p, oneMoreThan(q));
        int odds = pile.bestOdds();
        int gain = stake * odds - stake * (DRAWS - odds);
        return p.purse >= stake && gain > 0 ? 1 : 0;
    }

    // ---- glasses, glue, orders

    public int glass(int player, int what) {
        Player p = find(player);
        if (p == null || isOut(what, 0, 1)) return NONE;
        int glasses = 0, most = NONE;
        for (int g = 0; g <= GLASSES; g++) {
            int can = mostBy(p, g);
            if (can > most) {
                most = can;
                glasses = g;
            }
        }
        return what == 0 ? glasses : most;
    }

    public int stuck(int player, int n) {
        Player p = find(player);
        if (p == null) return NONE;
        if (isNoPile(n)) return BAD;
        lay(p, n);
        int glue = Math.max(0, pile.opens - 10 * p.hand);
        return glue <= 99 ? glue : NOWHERE;
    }

    public long floor(int player, int n, int force, int part) {
        Player p = find(player);
        if (p == null || isNoPile(n) || isNoForce(force) || isNoPart(part)) return NO;
        lay(p, n);
        long dropped = DRAWS * n - pile.caughtByAllDraws(force);
        return lowest(now.holding().pay * dropped, DRAWS, part);
    }

    public int order(int k) {
        if (isOut(k, 0, now.playerCount - 1)) return NONE;
        fillMosts();
        for (int i = 0; i < now.playerCount; i++) {
            if (placeOf(i) == k) return i;
        }
        return NONE;
    }

    public int title(int player) {
        if (player != ALL && find(player) == null) return NONE;
        if (now.playerCount == 0) return NOWHERE;
        fillMosts();
        fillPoints();
        if (player != ALL) return points[player];
        int leader = 0;
        for (int i = 1; i < now.playerCount; i++) {
            if (points[i] > points[leader]) leader = i;
        }
        return leader;
    }

    // ---- seen, books

    public int see(int player, int n, int force, int caught) {
        if (player == ALL) {
            now.seenCount = 0;
            return 0;
        }
        if (find(player) == null) return NONE;
        if (isNoPile(n) || isNoForce(force) || isOut(caught, 0, MATS)) return BAD;
        if (now.seenCount >= SEEN) return FULL;
        int i = now.seenCount;
        now.seenPlayer[i] = player;
        now.seenMats[i] = n;
        now.seenForce[i] = force;
        now.seenCaught[i] = caught;
        now.seenCount++;
        return now.seenCount;
    }

    public int can(int i) {
        if (isOut(i, 0, now.seenCount - 1)) return NONE;
        Player p = find(now.seenPlayer[i]);
        if (p == null) return NONE;
        return drawsOfSeen(i, p, p.skill);
    }

    public int skills(int player) {
        Player p = find(player);
        if (p == null) return NONE;
        int bits = 0;
        for (int skill = 0; skill <= SKILLS; skill++) {
            if (couldAllBeSeen(p, skill)) bits |= 1 << skill;
        }
        return bits;
    }

    public int book(int player, int most) {
        if (player == ALL) {
            now.bookCount = 0;
            return 0;
        }
        if (find(player) == null) return NONE;
        if (isOut(most, 0, MATS)) return BAD;
        if (now.bookCount >= BOOK) return FULL;
        now.bookPlayer[now.bookCount] = player;
        now.bookMost[now.bookCount] = most;
        now.bookCount++;
        return now.bookCount;
    }

    public int looked() {
        for (int i = 0; i < now.bookCount; i++) {
            Player p = find(now.bookPlayer[i]);
            if (p != null && mostBy(p, p.glasses) != now.bookMost[i]) return i;
        }
        return NOWHERE;
    }

    // ---- acts, the image

    public int act(int player, int act, int x) {
        trace[0] = 0;
        Player p = find(player);
        if (p == null) return 0;
        switch (act) {
            case 0: return p.strikes(x);
            case 1: return p.catches(x);
            case 2: return p.tells(x);
            default: return 0;
        }
    }

    public int trace(int i) {
        if (isOut(i, 0, Math.min(trace[0], TRACED) - 1)) return NONE;
        return trace[1 + i];
    }

    public int as(int player, int k) {
        Player p = find(player);
        if (p == null || isOut(k, 0, KINDS - 1)) return NONE;
        return isUnder(p, k) ? p.v : ANOTHER_KIND;
    }

    public int image() {
        kept.copyFrom(now);
        hasImage = true;
        return now.playerCount;
    }

    public int undo() {
        if (!hasImage) return STATE;
        now.copyFrom(kept);
        return now.playerCount;
    }

    public int count(int what) {
        switch (what) {
            case 0: return now.playerCount;
            case 1: return now.innCount;
            case 2: return now.seenCount;
            case 3: return now.bookCount;
            case 4: return now.tapeSize;
            case 5: return trace[0];
            default: return NONE;
        }
    }

    // ---- what the calls are refused by

    private static boolean isOut(int n, int least, int greatest) {
        return n < least || n > greatest;
    }

    private static boolean isNoPile(int n) {
        return isOut(n, 1, MATS);
    }

    private static boolean isNoForce(int force) {
        return isOut(force, 0, FORCES);
    }

    private static boolean isNoDraw(int draw) {
        return isOut(draw, 0, DRAWS - 1);
    }

    private static boolean isNoPart(int part) {
        return isOut(part, 0, 1);
    }

    private Player find(int player) {
        return isOut(player, 0, now.playerCount - 1) ? null : now.players[player];
    }

    // ---- fractions

    private static long tenths(int tries) {
        long all = 1;
        for (int t = 0; t < tries; t++) all *= DRAWS;
        return all;
    }

    private static long lowest(long above, long below, int part) {
        long divisor = above, rest = below;
        for (int step = 0; step < 200 && rest != 0; step++) {
            long next = divisor % rest;
            divisor = rest;
            rest = next;
        }
        if (divisor == 0) return NO;
        return (part == 0 ? above : below) / divisor;
    }

    // ---- what is asked of a player

    private void lay(Player p, int n) {
        pile.layFor(now, p, n, p.skill, p.glasses);
    }

    private int mostBy(Player p, int glasses) {
        for (int n = MATS; n >= 1; n--) {
            pile.layFor(now, p, n, p.skill, glasses);
            if (2 * pile.bestOdds() >= DRAWS) return n;
        }
        return 0;
    }

    private static int oneMoreThan(Player p) {
        return Math.min(MATS, p.score + 1);
    }

    private static int matsOf(int k) {
        return PILE_STEP * (k + 1);
    }

    private void fillPlanOdds(Player p, int tries) {
        for (int rises = 0; rises < Math.min(tries, PLANNED); rises++) {
            int skill = Math.min(SKILLS, p.skill + rises);
            for (int k = 0; k < PILES; k++) {
                pile.layFor(now, p, matsOf(k), skill, p.glasses);
                planOdds[rises * PILES + k] = pile.bestOdds();
            }
        }
    }

    /** The mean of SCORE at best, by 10 to the power of the TRIES left, so that it stays whole. */
    private long planned(int score, int rises, int left) {
        if (left <= 0) return score;
        long missed = planned(score, rises, left - 1), most = 0;
        for (int k = 0; k < PILES; k++) most = Math.max(most, plannedBy(k, score, rises, left, missed));
        return most;
    }

    private long plannedBy(int k, int score, int rises, int left, long missed) {
        int at = rises * PILES + k;
        if (left <= 0 || isOut(at, 0, planOdds.length - 1)) return 0;
        int n = matsOf(k), odds = planOdds[at];
        int risen = Math.abs(n - score) <= APART ? rises + 1 : rises;
        long caught = odds == 0 ? 0 : planned(Math.max(score, n), risen, left - 1);
        return odds * caught + (DRAWS - odds) * missed;
    }

    /** How likely the first wins (what 0), how likely it is a draw (1), by 10 to the power of the TRIES. */
    private long raised(Player one, Player other, int n, int tries, int what) {
        long nobody = 1, wins = 0;
        for (int t = 0; t < tries; t++) {
            boolean firstTries = t % 2 == 0;
            Player who = firstTries ? one : other;
            pile.layFor(now, who, Math.min(MATS, n + t), who.skill, who.glasses);
            int odds = pile.bestOdds();
            wins *= DRAWS;
            if (!firstTries) wins += nobody * (DRAWS - odds);
            nobody *= odds;
        }
        return what == 0 ? wins : nobody;
    }

    // ---- what is asked of all players

    private void fillMosts() {
        for (int i = 0; i < now.playerCount; i++) {
            Player p = find(i);
            mosts[i] = p == null ? 0 : mostBy(p, p.glasses);
        }
    }

    private int placeOf(int i) {
        int ahead = 0;
        for (int j = 0; j < now.playerCount; j++) {
            if (mosts[j] > mosts[i] || mosts[j] == mosts[i] && j < i) ahead++;
        }
        return ahead;
    }

    /** By the MOSTS as they were filled last. */
    private void fillPoints() {
        for (int i = 0; i < now.playerCount; i++) points[i] = 0;
        for (int i = 0; i < now.playerCount; i++) {
            for (int j = i + 1; j < now.playerCount; j++) {
                Player one = find(i), other = find(j);
                if (one != null && other != null) addPoints(one, other);
            }
        }
    }

    private void addPoints(Player one, Player other) {
        int i = one.number, j = other.number;
        int n = Math.max(1, Math.max(mosts[i], mosts[j]));
        long wins = raised(one, other, n, TITLE_TRIES, 0);
        long losses = tenths(TITLE_TRIES) - wins - raised(one, other, n, TITLE_TRIES, 1);
        if (wins >= losses) points[i] += wins == losses ? 1 : 2;
        if (losses >= wins) points[j] += wins == losses ? 1 : 2;
    }

    // ---- what was seen

    private int drawsOfSeen(int i, Player p, int skill) {
        pile.layFor(now, p, now.seenMats[i], skill, p.glasses);
        return pile.drawsOf(now.seenForce[i], now.seenCaught[i]);
    }

    private boolean couldAllBeSeen(Player p, int skill) {
        for (int i = 0; i < now.seenCount; i++) {
            if (now.seenPlayer[i] == p.number && drawsOfSeen(i, p, skill) == 0) return false;
        }
        return true;
    }

    private static boolean isUnder(Player p, int kind) {
        switch (kind) {
            case 0: return true;
            case 1: return p instanceof Sure;
            case 2: return p instanceof Bold;
            case 3: return p instanceof Slack;
            case 4: return p instanceof Calm;
            case 5: return p instanceof Drunk;
            case 6: return p instanceof Told;
            default: return false;
        }
    }

    /** All that THE IMAGE keeps. */
    private static final class World {
        final Player[] players = new Player[PLAYERS];
        final Inn[] inns = new Inn[INNS];
        final int[] tape = new int[TAPE];
        final int[] seenPlayer = new int[SEEN], seenMats = new int[SEEN];
        final int[] seenForce = new int[SEEN], seenCaught = new int[SEEN];
        final int[] bookPlayer = new int[BOOK], bookMost = new int[BOOK];
        int playerCount, innCount, tapeSize, seenCount, bookCount, tries;
        /** Stands where there is no INN, so that nobody has to ask whether there is one. */
        private final Inn bare = new Inn();

        Inn holding() {
            if (innCount <= 0 || innCount > INNS) return bare;
            Inn newest = inns[innCount - 1];
            return newest == null ? bare : newest;
        }

        void copyFrom(World from) {
            playerCount = from.playerCount;
            innCount = from.innCount;
            tapeSize = from.tapeSize;
            seenCount = from.seenCount;
            bookCount = from.bookCount;
            tries = from.tries;
            for (int i = 0; i < PLAYERS; i++) {
                Player p = from.players[i];
                players[i] = p == null || i >= playerCount ? null : p.twin();
            }
            // An INN never changes once it is read, so both may hold the same one.
            for (int i = 0; i < INNS; i++) inns[i] = from.inns[i];
            System.arraycopy(from.tape, 0, tape, 0, TAPE);
            System.arraycopy(from.seenPlayer, 0, seenPlayer, 0, SEEN);
            System.arraycopy(from.seenMats, 0, seenMats, 0, SEEN);
            System.arraycopy(from.seenForce, 0, seenForce, 0, SEEN);
            System.arraycopy(from.seenCaught, 0, seenCaught, 0, SEEN);
            System.arraycopy(from.bookPlayer, 0, bookPlayer, 0, BOOK);
            System.arraycopy(from.bookMost, 0, bookMost, 0, BOOK);
        }
    }

    /** A player of KIND 0; the KINDS under it change what they do in another way. */
    private static class Player {
        private final int[] trace;
        int kind, number, v, skill, hand, glasses, score, purse;

        Player(int[] trace) {
            this.trace = trace;
        }

        static Player ofKind(int kind, int[] trace) {
            Player p;
            switch (kind) {
                case 1: p = new Sure(trace); break;
                case 2: p = new Bold(trace); break;
                case 3: p = new Slack(trace); break;
                case 4: p = new Calm(trace); break;
                case 5: p = new Drunk(trace); break;
                case 6: p = new Told(trace); break;
                default: p = new Player(trace); break;
            }
            p.kind = kind;
            return p;
        }

        Player twin() {
            Player twin = ofKind(kind, trace);
            twin.copyFrom(this);
            return twin;
        }

        void copyFrom(Player from) {
            number = from.number;
            v = from.v;
            skill = from.skill;
            hand = from.hand;
            glasses = from.glasses;
            score = from.score;
            purse = from.purse;
        }

        /** How much the KIND has TURN more than FORCE and mats make. */
        int lean(int tries) {
            return 0;
        }

        int unsureBy(int skill, int glasses) {
            int unsure = 3 + glasses - skill / 4;
            return unsure < 0 ? 0 : unsure;
        }

        void hasTried(int mats, int caught, int pay) {
            if (caught == mats) {
                if (Math.abs(score - mats) <= APART) skill = Math.min(SKILLS, skill + 1);
                score = Math.max(score, mats);
            }
            purse = Math.max(0, purse - pay * (mats - caught));
        }

        int strikes(int x) {
            begins(1);
            return x + number;
        }

        int catches(int x) {
            begins(2);
            return strikes(x) - v;
        }

        int tells(int x) {
            begins(3);
            return catches(x) * 2;
        }

        final void begins(int body) {
            int ran = trace[0] + 1;
            trace[0] = ran;
            if (ran > 0 && ran < trace.length) trace[ran] = body;
        }
    }

    private static class Sure extends Player {
        Sure(int[] trace) {
            super(trace);
        }

        int unsureBy(int skill, int glasses) {
            return super.unsureBy(skill, glasses) / 2;
        }

        int strikes(int x) {
            begins(11);
            return super.strikes(x * 3);
        }
    }

    private static class Bold extends Player {
        Bold(int[] trace) {
            super(trace);
        }

        int lean(int tries) {
            return v;
        }

        int catches(int x) {
            begins(21);
            return -super.catches(x);
        }
    }

    private static class Slack extends Player {
        Slack(int[] trace) {
            super(trace);
        }

        int lean(int tries) {
            return -v;
        }

        int tells(int x) {
            begins(31);
            return super.tells(x) ^ 7;
        }
    }

    private static final class Calm extends Sure {
        Calm(int[] trace) {
            super(trace);
        }

        int unsureBy(int skill, int glasses) {
            return super.unsureBy(skill, 0);
        }

        int tells(int x) {
            begins(41);
            return super.tells(x - 1) + strikes(2);
        }
    }

    private static final class Drunk extends Bold {
        Drunk(int[] trace) {
            super(trace);
        }

        int unsureBy(int skill, int glasses) {
            return super.unsureBy(skill, 2 * glasses);
        }

        int strikes(int x) {
            begins(51);
            return super.strikes(x) ^ number;
        }
    }

    private static final class Told extends Slack {
        /** The ROW: what TURN has more by TRY modulo 4, and 4. */
        final int[] turns = {4, 4, 4, 4};

        Told(int[] trace) {
            super(trace);
        }

        void copyFrom(Player from) {
            super.copyFrom(from);
            if (from instanceof Told told) System.arraycopy(told.turns, 0, turns, 0, 4);
        }

        int lean(int tries) {
            return super.lean(tries) + turns[tries & 3] - 4;
        }

        int catches(int x) {
            begins(61);
            return super.catches(x) + v;
        }
    }

    /**
     * A pile ahead of a player: all that a TRY of it hangs on, but FORCE and DRAW.
     * One object is laid again and again, as a search lays hundreds of piles in a call.
     */
    private static final class Pile {
        private static final int HALF_TURN = 50, MIDDLE_DRAW = 4;
        /** What the letters of Reader.LETTERS stand for, in their order. */
        private final int[] facts = new int[6];
        private int mats, reach, rest, unsure, wide;
        int opens;

        void layFor(World world, Player p, int n, int skill, int glasses) {
            Inn inn = world.holding();
            facts[0] = p.number;
            facts[1] = p.kind;
            facts[2] = n / 10;
            facts[3] = glasses;
            facts[4] = skill;
            facts[5] = world.tries % 10;
            mats = n;
            reach = 10 * p.hand;
            rest = p.lean(world.tries) - n / 2;
            unsure = p.unsureBy(skill, glasses);
            wide = inn.wide;
            opens = inn.opensOf(n, facts);
        }

        int turnBy(int force) {
            return 5 * force + rest;
        }

        int caughtBy(int force, int draw) {
            int off = Math.abs(turnBy(force) + unsure * (draw - MIDDLE_DRAW) - HALF_TURN);
            if (off <= wide && opens <= reach) return mats;
            if (off <= 2 * wide && opens <= 2 * reach) return mats / 2;
            return 0;
        }

        int caughtByAllDraws(int force) {
            int caught = 0;
            for (int draw = 0; draw < DRAWS; draw++) caught += caughtBy(force, draw);
            return caught;
        }

        int drawsOf(int force, int caught) {
            int bits = 0;
            for (int draw = 0; draw < DRAWS; draw++) {
                if (caughtBy(force, draw) == caught) bits |= 1 << draw;
            }
            return bits;
        }

        /**
         * The searches ask this most of all; as each DRAW moves TURN by UNSURE, the DRAWS that catch
         * all stand side by side, and are counted by their first and last.
         */
        int oddsBy(int force) {
            if (opens > reach) return 0;
            int over = turnBy(force) - HALF_TURN;
            if (unsure <= 0) return Math.abs(over) <= wide ? DRAWS : 0;
            int least = Math.max(0, MIDDLE_DRAW - Math.floorDiv(wide + over, unsure));
            int greatest = Math.min(DRAWS - 1, MIDDLE_DRAW + Math.floorDiv(wide - over, unsure));
            return Math.max(0, greatest - least + 1);
        }

        int bestForce() {
            int best = 0, most = NONE;
            for (int force = 0; force <= FORCES; force++) {
                int odds = oddsBy(force);
                if (odds > most) {
                    most = odds;
                    best = force;
                }
            }
            return best;
        }

        int bestOdds() {
            return opens > reach ? 0 : oddsBy(bestForce());
        }
    }

    /** An INN as it was read: WIDE, PAY, and its slips and glues, which are slips by less than nothing. */
    private static final class Inn {
        private static final int NOT = -1, AND = -2, OR = -3, CLAUSES = 10;
        int wide = 6, pay = 1;
        private int slips, used;
        private final int[] slip = new int[CLAUSES], end = new int[CLAUSES];
        /** The E of the slips, one behind the other, each NOT, AND, OR behind what it is of. */
        private final int[] codes = new int[TAPE];

        void addCode(int code) {
            if (used >= codes.length) return;
            codes[used] = code;
            used++;
        }

        void addTest(int letter, int relation, int number) {
            addCode((letter * 3 + relation) * 100 + number);
        }

        /** What was added since the last slip is the E of this one. */
        void addSlip(int n) {
            if (slips >= CLAUSES) return;
            slip[slips] = n;
            end[slips] = used;
            slips++;
        }

        int opensOf(int n, int[] facts) {
            int opens = n, from = 0;
            for (int k = 0; k < slips; k++) {
                if (holds(from, end[k], facts)) opens += slip[k];
                from = end[k];
            }
            return Math.max(0, opens);
        }

        /** The bits of a number are the stack: E is never open 16 deep, so they suffice. */
        private boolean holds(int from, int to, int[] facts) {
            int stack = 0;
            for (int i = from; i < to && i < codes.length; i++) {
                int code = codes[i], right = stack & 1;
                if (code >= 0) stack = stack << 1 | (isMet(code, facts) ? 1 : 0);
                else if (code == NOT) stack ^= 1;
                else if (code == AND) stack = right == 1 ? stack >> 1 : stack >> 1 & ~1;
                else stack = stack >> 1 | right;
            }
            return (stack & 1) == 1;
        }

        private static boolean isMet(int test, int[] facts) {
            int letter = test / 300, relation = test / 100 % 3, number = test % 100;
            if (letter < 0 || letter >= facts.length) return false;
            int fact = facts[letter];
            return relation == 0 ? fact < number : relation == 1 ? fact == number : fact > number;
        }
    }

    /** Reads THE TAPE for an INN, up to the first FAULT. */
    private static final class Reader {
        private static final String LETTERS = "pkngsy", RELATIONS = "<=>";
        private static final int OPEN = 5;
        private final int[] tape;
        private final int size;
        private final Inn inn = new Inn();
        private int at;
        int fault = NONE;

        Reader(int[] tape, int size) {
            this.tape = tape;
            this.size = Math.min(size, tape.length);
        }

        /** The INN; null by a FAULT. */
        Inn read() {
            clause();
            for (int k = 1; k < Inn.CLAUSES && takes(';'); k++) clause();
            if (at < size) fails();
            return fault < 0 ? inn : null;
        }

        private void clause() {
            int word = takesOneOf("wpsg");
            needs(word == 0 ? "ide " : word == 1 ? "ay " : word == 2 ? "lip " : "lue ");
            int n = number();
            if (word == 0) {
                inn.wide = n;
            } else if (word == 1) {
                inn.pay = n;
            } else {
                needs(" ");
                either(0);
                inn.addSlip(word == 2 ? n : -n);
            }
        }

        private void either(int open) {
            both(open);
            for (int k = 0; k < TAPE && takes('|'); k++) {
                both(open);
                inn.addCode(Inn.OR);
            }
        }

        private void both(int open) {
            factor(open);
            for (int k = 0; k < TAPE && takes('&'); k++) {
                factor(open);
                inn.addCode(Inn.AND);
            }
        }

        private void factor(int open) {
            if (open < OPEN && takes('!')) {
                factor(open + 1);
                inn.addCode(Inn.NOT);
            } else if (open < OPEN && takes('(')) {
                either(open + 1);
                needs(")");
            } else {
                int letter = takesOneOf(LETTERS), relation = takesOneOf(RELATIONS);
                inn.addTest(letter, relation, number());
            }
        }

        private int number() {
            int first = digit();
            if (first < 0) fails();
            if (first <= 0) return 0;
            int second = digit();
            return second < 0 ? first : 10 * first + second;
        }

        private int digit() {
            if (fault >= 0 || at >= size || tape[at] < '0' || tape[at] > '9') return NONE;
            at++;
            return tape[at - 1] - '0';
        }

        private void needs(String signs) {
            for (int k = 0; k < signs.length(); k++) {
                if (!takes(signs.charAt(k))) fails();
            }
        }

        private int takesOneOf(String signs) {
            for (int k = 0; k < signs.length(); k++) {
                if (takes(signs.charAt(k))) return k;
            }
            fails();
            return 0;
        }

        /** Once there is a FAULT nothing is taken any more, so that the place of the first one stays. */
        private boolean takes(char sign) {
            if (fault >= 0 || at >= size || tape[at] != sign) return false;
            at++;
            return true;
        }

        private void fails() {
            if (fault < 0) fault = at;
        }
    }
}
