/** Eleven men on four rods; ../shared/DOC.md says what each call answers. */
public final class FourRods {
    public static final int NONE = -6, UNKNOWN = -1, OUTSIDE = -2, STATE = -3, FULL = -4, NO = -5;
    public static final long LOST = -1000000000000000000L;

    private static final int RODS = 8;
    private static final int WIDTH = 40;
    private static final int HANDS = 2;
    private static final int GOALS_TO_WIN = 10;
    private static final int LAST_TENTH = 999;
    private static final int WIDEST_SHOT = 9;
    private static final int PAD_SIGNS = 60;
    private static final int SIGHTS = 8;
    private static final int LAST_SHOT = 60;
    private static final int TENTHS = 10;

    // One number names a rod and its man, as the document tells them: 10 times the rod and the man.
    // These two stand beside the men; a goal's tens are the 8 that ends() answers.
    private static final int NOBODY = -1;
    private static final int GOAL = 80;

    // The first eight kinds of acts are numbered as a year draws them.
    private static final int GRASP = 0, LET_GO = 1, LESS = 2, MORE = 3, ALONG = 4, OVER = 5, SHOT = 6, THROW_IN = 7;
    private static final int TENTH = 8;

    private final Table now;
    private final Pad pad;
    private final Evening evening;
    private final Passes passes;
    private final Defence defence;
    private final Sights sights;
    private final Image firstImage;
    private final Image secondImage;
    private final Table drawn;

    public FourRods() {
        now = new Table();
        pad = new Pad();
        evening = new Evening();
        passes = new Passes();
        defence = new Defence();
        sights = new Sights();
        firstImage = new Image();
        secondImage = new Image();
        drawn = new Table();
    }

    // ---- 1 rods, hands, the ball, evenings

    public int slide(int rod, int v) {
        if (!Rods.isRod(rod)) return UNKNOWN;
        if (!isWithin(v, 0, Rods.lastSlide(rod))) return OUTSIDE;
        int before = now.slideOf(rod);
        now.slideTo(rod, v);
        return before;
    }

    public int hold(int rod, boolean is) {
        if (!Rods.isRod(rod)) return UNKNOWN;
        int side = Rods.sideOf(rod);
        if (is && !now.isHeld(rod) && now.heldBy(side) >= HANDS) return FULL;
        now.setHeld(rod, is);
        return now.heldBy(side);
    }

    public int ball(int rod, int man) {
        if (rod == -1) {
            now.loseBall();
            return 1;
        }
        if (!Rods.isMan(rod, man)) return UNKNOWN;
        now.giveBall(10 * rod + man);
        return 1;
    }

    public int goals(int side, int v) {
        if (!isBit(side)) return UNKNOWN;
        if (!isWithin(v, 0, GOALS_TO_WIN)) return OUTSIDE;
        int before = now.scoredBy(side);
        now.setScored(side, v);
        return before;
    }

    public int say(int sign) {
        if (!isWithin(sign, 33, 126)) return OUTSIDE;
        return pad.add(sign) ? pad.size() : FULL;
    }

    public int wipe() {
        int before = pad.size();
        pad.clear();
        return before;
    }

    public int fault() {
        return pad.faultPlace();
    }

    // ---- 2 evenings

    public int judge(int what) {
        if (!isBit(what)) return OUTSIDE;
        if (pad.faultPlace() != NONE) return NO;
        evening.play(now, pad);
        return what == 0 ? evening.stoppedAt() : evening.reason();
    }

    public int done() {
        if (!playsThrough()) return NO;
        now.copyFrom(evening.table());
        pad.clear();
        return evening.acts();
    }

    public int behind(int rod, int what) {
        if (!Rods.isRod(rod)) return UNKNOWN;
        if (!isBit(what)) return OUTSIDE;
        if (!playsThrough()) return NO;
        if (what == 0) return evening.table().slideOf(rod);
        return evening.table().isHeld(rod) ? 1 : 0;
    }

    public int then(int what) {
        if (!isWithin(what, 0, 6)) return OUTSIDE;
        if (!playsThrough()) return NO;
        Table last = evening.table();
        switch (what) {
            case 0: return last.ballRod();
            case 1: return last.ballMan();
            case 2: return last.ballPlace();
            case 3: return last.scoredBy(0);
            case 4: return last.scoredBy(1);
            case 5: return last.tenth();
            default: return evening.firstGoal();
        }
    }

    public int ends(int d) {
        if (!isWithin(d, -WIDEST_SHOT, WIDEST_SHOT)) return OUTSIDE;
        if (now.isDead()) return STATE;
        return now.shotEnd(d) / 10;
    }

    public int goesIn() {
        if (now.isDead()) return STATE;
        int bits = 0;
        for (int d = -WIDEST_SHOT; d <= WIDEST_SHOT; d++) {
            if (now.shotEnd(d) == GOAL) bits |= shotBit(d);
        }
        return bits;
    }

    // ---- 3 paths, standing, mixing, hands

    public int path(int rod, int man, int what) {
        if (!Rods.isMan(rod, man)) return UNKNOWN;
        if (!isBit(what)) return OUTSIDE;
        if (now.isDead()) return STATE;
        if (Rods.sideOf(rod) != Rods.sideOf(now.ballRod())) return NONE;
        passes.countTo(now, 10 * rod + man);
        int from = 10 * now.ballRod() + now.ballMan();
        return what == 0 ? passes.from(from) : passes.firstFrom(now, from);
    }

    public int stand(int what) {
        if (!isBit(what)) return OUTSIDE;
        if (now.isDead()) return STATE;
        defence.place(now);
        return what == 0 ? defence.letIn() : defence.slides();
    }

    public long mix(int a, int b, int c, int d, int what, int part) {
        if (!isTenths(a) || !isTenths(b) || !isTenths(c) || !isTenths(d)) return LOST + OUTSIDE;
        if (!isBit(what) || !isBit(part)) return LOST + OUTSIDE;
        return Chances.mixed(a, b, c, d, what, part);
    }

    public int hands(int row, int n) {
        if (!isWithin(n, 1, 9) || !Grasps.isRow(row, n)) return OUTSIDE;
        return Grasps.fewest(row, n);
    }

    // ---- 4 seven in ten, races, habits

    public long truly(int a, int b, int n, int k, int part) {
        if (!isTenths(a) || !isTenths(b) || !isBit(part)) return LOST + OUTSIDE;
        if (!isWithin(n, 0, 16) || !isWithin(k, 0, n)) return LOST + OUTSIDE;
        return Chances.isTheFirst(a, b, n, k, part);
    }

    public long race(int a, int b, int t, int part) {
        if (!isWithin(a, 0, 9) || !isWithin(b, 0, 9)) return LOST + OUTSIDE;
        if (!isTenths(t) || !isBit(part)) return LOST + OUTSIDE;
        if (a == 0 && b == 0) return LOST + STATE;
        return Chances.winsRace(GOALS_TO_WIN - a, GOALS_TO_WIN - b, t, part);
    }

    public int seen(int shot, boolean second) {
        if (!isWithin(shot, 0, LAST_SHOT)) return OUTSIDE;
        return sights.add(shot, second) ? sights.size() : FULL;
    }

    public int forget() {
        int before = sights.size();
        sights.clear();
        return before;
    }

    public int fits(int i) {
        int found = sights.findRows();
        return i == -1 ? found : sights.rowFound(i);
    }

    public int ask(int what) {
        if (!isBit(what)) return OUTSIDE;
        if (sights.findRows() == 0) return NONE;
        int shot = sights.bestShot();
        return what == 0 ? shot : sights.mostLeft(shot);
    }

    public int year(int seed, int m, int what) {
        if (!isWithin(seed, 0, 9999) || !isWithin(m, 1, 99) || !isWithin(what, 0, 2)) return OUTSIDE;
        drawn.copyFrom(now);
        int x = seed;
        for (int i = 0; i < m; i++) {
            x = (75 * x + 74) % 65537;
            drawn.tryDrawn(x);
        }
        switch (what) {
            case 0: return drawn.scoredInAll();
            case 1: return drawn.tenth();
            default: return drawn.ballRod();
        }
    }

    public int image(int n) {
        if (!isBit(n)) return OUTSIDE;
        imageOf(n).keep(now, sights);
        return 1;
    }

    public int restore(int n) {
        if (!isBit(n)) return OUTSIDE;
        return imageOf(n).giveBack(now, sights) ? 1 : STATE;
    }

    public int told(int what) {
        switch (what) {
            case 0: return pad.size();
            case 1: return now.heldRods();
            case 2: return now.ballRod();
            case 3: return now.ballMan();
            case 4: return now.tenth();
            case 5: return sights.size();
            default: return toldByNumber(what);
        }
    }

    private int toldByNumber(int what) {
        if (isWithin(what, 10, 11)) return now.scoredBy(what - 10);
        if (isWithin(what, 20, 27)) return now.slideOf(what - 20);
        if (!isWithin(what, 100, 179)) return OUTSIDE;
        int rod = (what - 100) / 10;
        int man = (what - 100) % 10;
        return Rods.isMan(rod, man) ? now.placeOf(rod, man) : OUTSIDE;
    }

    // What is behind the pad is asked, and done, on the same terms, so all of it goes through here.
    private boolean playsThrough() {
        if (pad.faultPlace() != NONE) return false;
        evening.play(now, pad);
        return evening.stoppedAt() == NONE;
    }

    private Image imageOf(int n) {
        return n == 0 ? firstImage : secondImage;
    }

    private static boolean isWithin(int v, int least, int most) {
        return v >= least && v <= most;
    }

    private static boolean isBit(int v) {
        return v == 0 || v == 1;
    }

    private static boolean isTenths(int v) {
        return isWithin(v, 0, TENTHS);
    }

    private static int shotBit(int d) {
        return 1 << (d + WIDEST_SHOT);
    }

    private static void copyRow(int[] from, int[] to) {
        if (from == null || to == null) return;
        for (int i = 0; i < from.length && i < to.length; i++) {
            to[i] = from[i];
        }
    }

    /** The rods as they are built. */
    private static final class Rods {
        private static final int[] SIDES = {0, 0, 1, 0, 1, 0, 1, 1};
        private static final int[] MEN = {1, 2, 3, 5, 5, 3, 2, 1};
        private static final int[] GAPS = {0, 16, 12, 8, 8, 12, 16, 0};

        static boolean isRod(int rod) {
            return rod >= 0 && rod < RODS;
        }

        static boolean isMan(int rod, int man) {
            return man >= 0 && man < menOf(rod);
        }

        static int sideOf(int rod) {
            return rod >= 0 && rod < SIDES.length ? SIDES[rod] : NONE;
        }

        static int menOf(int rod) {
            return rod >= 0 && rod < MEN.length ? MEN[rod] : 0;
        }

        static int gapOf(int rod) {
            return rod >= 0 && rod < GAPS.length ? GAPS[rod] : 0;
        }

        static int lastSlide(int rod) {
            return WIDTH - (menOf(rod) - 1) * gapOf(rod);
        }

        static boolean isOf(int rod, int side) {
            return isRod(rod) && sideOf(rod) == side;
        }

        static int keeperOf(int side) {
            return side == 0 ? 0 : 7;
        }

        static int backsOf(int side) {
            return side == 0 ? 1 : 6;
        }

        static int stepToGoalOf(int side) {
            return side == 0 ? 1 : -1;
        }
    }

    /** A table with its rods, hands, ball, goals and tenths. */
    private static final class Table {
        private static final int REACH = 3;
        private static final int GOAL_FROM = 15;
        private static final int GOAL_TO = 25;

        private final int[] slides = new int[RODS];
        private final int[] scored = new int[2];
        private int heldRods;
        private int ballRod;
        private int ballMan;
        private int tenth;

        Table() {
            for (int rod = 0; rod < slides.length; rod++) {
                slides[rod] = Rods.lastSlide(rod) / 2;
            }
            ballRod = NONE;
            ballMan = NONE;
        }

        void copyFrom(Table other) {
            if (other == null) return;
            copyRow(other.slides, slides);
            copyRow(other.scored, scored);
            heldRods = other.heldRods;
            ballRod = other.ballRod;
            ballMan = other.ballMan;
            tenth = other.tenth;
        }

        int slideOf(int rod) {
            return rod >= 0 && rod < slides.length ? slides[rod] : NONE;
        }

        void slideTo(int rod, int v) {
            if (rod >= 0 && rod < slides.length) slides[rod] = v;
        }

        int scoredBy(int side) {
            return side >= 0 && side < scored.length ? scored[side] : NONE;
        }

        void setScored(int side, int v) {
            if (side >= 0 && side < scored.length) scored[side] = v;
        }

        int scoredInAll() {
            return scoredBy(0) + scoredBy(1);
        }

        int heldRods() {
            return heldRods;
        }

        boolean isHeld(int rod) {
            return Rods.isRod(rod) && (heldRods >> rod & 1) == 1;
        }

        int heldBy(int side) {
            int held = 0;
            for (int rod = 0; rod < RODS; rod++) {
                if (Rods.sideOf(rod) == side && isHeld(rod)) held++;
            }
            return held;
        }

        void setHeld(int rod, boolean is) {
            if (!Rods.isRod(rod)) return;
            heldRods = is ? heldRods | 1 << rod : heldRods & ~(1 << rod);
        }

        int tenth() {
            return tenth;
        }

        boolean isDead() {
            return ballRod == NONE;
        }

        int ballRod() {
            return ballRod;
        }

        int ballMan() {
            return ballMan;
        }

        int ballPlace() {
            return isDead() ? NONE : placeOf(ballRod, ballMan);
        }

        void loseBall() {
            ballRod = NONE;
            ballMan = NONE;
        }

        void giveBall(int who) {
            if (who < 0) return;
            ballRod = who / 10;
            ballMan = who % 10;
        }

        int placeOf(int rod, int man) {
            return slideOf(rod) + man * Rods.gapOf(rod);
        }

        int covererOf(int rod, int place) {
            int first = slideOf(rod);
            int gap = Rods.gapOf(rod);
            for (int man = 0; man < Rods.menOf(rod); man++) {
                if (Math.abs(first + man * gap - place) <= 1) return man;
            }
            return NOBODY;
        }

        int nearestOf(int rod, int place) {
            int first = slideOf(rod);
            int gap = Rods.gapOf(rod);
            int nearest = 0;
            for (int man = 1; man < Rods.menOf(rod); man++) {
                if (Math.abs(first + man * gap - place) < Math.abs(first + nearest * gap - place)) nearest = man;
            }
            return nearest;
        }

        // NOBODY tells that the pass can not be; one that the other side gets can.
        int overFrom(int rod, int man, int to) {
            int side = Rods.sideOf(rod);
            if (to == rod || !Rods.isOf(to, side)) return NOBODY;
            int place = placeOf(rod, man);
            int receiver = nearestOf(to, place);
            if (Math.abs(placeOf(to, receiver) - place) > REACH) return NOBODY;
            int step = to > rod ? 1 : -1;
            for (int i = 1; i < RODS; i++) {
                int between = rod + i * step;
                if (between == to) break;
                int catcher = Rods.isOf(between, 1 - side) ? covererOf(between, place) : NOBODY;
                if (catcher != NOBODY) return 10 * between + catcher;
            }
            return 10 * to + receiver;
        }

        int shotEnd(int d) {
            if (isDead()) return NOBODY;
            int side = Rods.sideOf(ballRod);
            int place = placeOf(ballRod, ballMan);
            for (int i = 1; i < RODS; i++) {
                int rod = ballRod + i * Rods.stepToGoalOf(side);
                if (Rods.isOf(rod, 1 - side)) {
                    int catcher = covererOf(rod, bounced(place + i * d));
                    if (catcher != NOBODY) return 10 * rod + catcher;
                }
            }
            return reachesGoal(place, d) ? GOAL : 10 * Rods.keeperOf(1 - side);
        }

        private boolean reachesGoal(int place, int d) {
            int behind = Math.abs(Rods.keeperOf(1 - Rods.sideOf(ballRod)) - ballRod) + 1;
            int end = bounced(place + behind * d);
            return end >= GOAL_FROM && end <= GOAL_TO;
        }

        // Standing tries all slides of two rods, so shots are sets of bits there: those to the goal, those past a rod.
        int shotsToGoal() {
            int from = ballPlace();
            int bits = 0;
            for (int d = -WIDEST_SHOT; d <= WIDEST_SHOT; d++) {
                if (reachesGoal(from, d)) bits |= shotBit(d);
            }
            return bits;
        }

        int shotsPast(int rod) {
            int from = ballPlace();
            int bits = 0;
            for (int d = -WIDEST_SHOT; d <= WIDEST_SHOT; d++) {
                int place = bounced(from + Math.abs(rod - ballRod) * d);
                if (covererOf(rod, place) == NOBODY) bits |= shotBit(d);
            }
            return bits;
        }

        // Off 0 and 40 alike a ball comes back to the same place every 80.
        private static int bounced(int place) {
            int round = Math.floorMod(place, 2 * WIDTH);
            return round > WIDTH ? 2 * WIDTH - round : round;
        }

        // The reasons are asked for as the document numbers them, so the first that holds is the least.
        int whyNot(int kind, int rod, int number) {
            if (scoredBy(0) >= GOALS_TO_WIN || scoredBy(1) >= GOALS_TO_WIN) return 1;
            if (isPlayed(kind) ? isDead() : kind == THROW_IN && !isDead()) return 2;
            if (isHeldWrongly(kind, rod)) return 3;
            if (kind == GRASP && heldBy(Rods.sideOf(rod)) >= HANDS) return 4;
            if (kind == LESS && slideOf(rod) - number < 0) return 5;
            if (kind == MORE && slideOf(rod) + number > Rods.lastSlide(rod)) return 5;
            if (kind == THROW_IN && !Rods.isMan(rod, number)) return 6;
            if (kind == ALONG && !isNextMan(number)) return 6;
            if (kind == OVER && overFrom(ballRod, ballMan, rod) == NOBODY) return 6;
            if (kind == TENTH && tenth >= LAST_TENTH) return 7;
            return 0;
        }

        private static boolean isPlayed(int kind) {
            return kind == ALONG || kind == OVER || kind == SHOT;
        }

        private boolean isHeldWrongly(int kind, int rod) {
            switch (kind) {
                case GRASP: return isHeld(rod);
                case LET_GO:
                case LESS:
                case MORE: return !isHeld(rod);
                default: return isPlayed(kind) && !isHeld(ballRod);
            }
        }

        private boolean isNextMan(int man) {
            return Rods.isMan(ballRod, man) && Math.abs(man - ballMan) == 1;
        }

        // Only for an act that can be: nothing is looked at again here.
        void perform(int kind, int rod, int number) {
            switch (kind) {
                case GRASP: setHeld(rod, true); break;
                case LET_GO: setHeld(rod, false); break;
                case LESS: slideTo(rod, slideOf(rod) - number); break;
                case MORE: slideTo(rod, slideOf(rod) + number); break;
                case ALONG: giveBall(10 * ballRod + number); break;
                case OVER: giveBall(overFrom(ballRod, ballMan, rod)); break;
                case SHOT: endShot(shotEnd(number)); break;
                case THROW_IN: giveBall(10 * rod + number); break;
                case TENTH: tenth++; break;
                default: break;
            }
        }

        private void endShot(int end) {
            if (end == GOAL) {
                int side = Rods.sideOf(ballRod);
                setScored(side, scoredBy(side) + 1);
                loseBall();
            } else {
                giveBall(end);
            }
        }

        void tryDrawn(int x) {
            int rod = x % 8;
            int kind = x / 8 % 8;
            if (kind == THROW_IN && !isDead()) kind = TENTH;
            int number = drawnNumber(kind, x / 64);
            if (whyNot(kind, rod, number) == 0) perform(kind, rod, number);
        }

        private static int drawnNumber(int kind, int z) {
            switch (kind) {
                case LESS:
                case MORE: return 1 + z % 9;
                case ALONG:
                case THROW_IN: return z % 5;
                case SHOT: return z % 19 - WIDEST_SHOT;
                default: return 0;
            }
        }
    }

    /** The signs of an evening, and the act that was read from them last. */
    private static final class Pad {
        private final int[] signs = new int[PAD_SIGNS];
        private int count;
        private int place;
        private int kind;
        private int rod;
        private int number;

        int size() {
            return count;
        }

        boolean add(int sign) {
            if (count < 0 || count >= signs.length) return false;
            signs[count] = sign;
            count++;
            return true;
        }

        void clear() {
            count = 0;
        }

        void rewind() {
            place = 0;
        }

        boolean isReadOut() {
            return place >= count;
        }

        int kind() {
            return kind;
        }

        int rod() {
            return rod;
        }

        int number() {
            return number;
        }

        int faultPlace() {
            rewind();
            for (int i = 0; i < PAD_SIGNS && !isReadOut(); i++) {
                if (!readAct()) return place;
            }
            return NONE;
        }

        // Of an act that is not whole the place is left where the fault is: at a wrong sign, or behind the last one.
        boolean readAct() {
            rod = NONE;
            number = 0;
            if (takes('.', TENTH)) return true;
            if (takes('p', ALONG)) return takesDigit(0, 4);
            if (takes('P', OVER)) return takesRod();
            if (takes('s', SHOT)) return takesWay();
            if (takes('!', THROW_IN)) return takesRod() && takesDigit(0, 4);
            return takesRod() && takesHandling();
        }

        private boolean takesHandling() {
            if (takes('(', GRASP) || takes(')', LET_GO)) return true;
            return (takes('<', LESS) || takes('>', MORE)) && takesDigit(1, 9);
        }

        private boolean takesWay() {
            if (takes('>', SHOT)) return takesDigit(0, WIDEST_SHOT);
            if (!takes('<', SHOT) || !takesDigit(0, WIDEST_SHOT)) return false;
            number = -number;
            return true;
        }

        private boolean takes(int sign, int kindBySign) {
            if (nextSign() != sign) return false;
            kind = kindBySign;
            place++;
            return true;
        }

        private boolean takesRod() {
            int letter = nextSign() - 'a';
            if (!Rods.isRod(letter)) return false;
            rod = letter;
            place++;
            return true;
        }

        private boolean takesDigit(int least, int most) {
            int digit = nextSign() - '0';
            if (!isWithin(digit, least, most)) return false;
            number = digit;
            place++;
            return true;
        }

        private int nextSign() {
            return place >= 0 && place < count && place < signs.length ? signs[place] : 0;
        }
    }

    /** An evening, played on a table of its own. */
    private static final class Evening {
        private final Table table = new Table();
        private int acts;
        private int stoppedAt;
        private int reason;
        private int firstGoal;

        Table table() {
            return table;
        }

        int acts() {
            return acts;
        }

        int stoppedAt() {
            return stoppedAt;
        }

        int reason() {
            return reason;
        }

        int firstGoal() {
            return firstGoal;
        }

        void play(Table start, Pad pad) {
            acts = 0;
            stoppedAt = NONE;
            reason = NONE;
            firstGoal = NONE;
            if (start == null || pad == null) return;
            table.copyFrom(start);
            pad.rewind();
            for (int i = 0; i < PAD_SIGNS && !pad.isReadOut(); i++) {
                if (!pad.readAct()) return;
                int why = table.whyNot(pad.kind(), pad.rod(), pad.number());
                if (why != 0) {
                    stoppedAt = acts;
                    reason = why;
                    return;
                }
                int before = table.scoredInAll();
                table.perform(pad.kind(), pad.rod(), pad.number());
                if (firstGoal == NONE && table.scoredInAll() > before) firstGoal = acts;
                acts++;
            }
        }
    }

    /** The fewest passes from every man of a side to one of them. */
    private static final class Passes {
        private static final int MEN_OF_A_SIDE = 11;
        private static final int WAYS = 2 + RODS;

        private final int[] counts = new int[10 * RODS];

        int from(int who) {
            return who >= 0 && who < counts.length ? counts[who] : NONE;
        }

        void countTo(Table table, int target) {
            for (int who = 0; who < counts.length; who++) {
                counts[who] = who == target ? 0 : NONE;
            }
            // A fewest way meets no man twice, so its passes are fewer than the men of a side.
            for (int round = 1; round < MEN_OF_A_SIDE; round++) {
                for (int who = 0; who < counts.length; who++) {
                    if (counts[who] == NONE && leads(table, who, round - 1)) counts[who] = round;
                }
            }
        }

        private boolean leads(Table table, int who, int rest) {
            for (int way = 0; way < WAYS; way++) {
                if (from(receiver(table, who, way)) == rest) return true;
            }
            return false;
        }

        int firstFrom(Table table, int who) {
            int rest = from(who) - 1;
            if (rest < 0) return NONE;
            int least = NONE;
            for (int way = 0; way < WAYS; way++) {
                int next = receiver(table, who, way);
                if (from(next) == rest && (least == NONE || next < least)) least = next;
            }
            return least;
        }

        // A man has two ways along, 0 and 1, and one over to each rod, 2 and the rod.
        private static int receiver(Table table, int who, int way) {
            int rod = who / 10;
            int man = who % 10;
            if (table == null || !Rods.isMan(rod, man)) return NOBODY;
            if (way >= 2) return ownOnly(rod, table.overFrom(rod, man, way - 2));
            int next = way == 0 ? man - 1 : man + 1;
            return Rods.isMan(rod, next) ? 10 * rod + next : NOBODY;
        }

        private static int ownOnly(int rod, int who) {
            return who >= 0 && Rods.sideOf(who / 10) == Rods.sideOf(rod) ? who : NOBODY;
        }
    }

    /** Where keeper and backs stand best against the man who has the ball. */
    private static final class Defence {
        private final Table trial = new Table();

        // By the backs' slide, so that their shots are not reckoned anew for every slide of the keeper.
        private final int[] pastBacks = new int[WIDTH + 1];
        private int letIn;
        private int slides;

        int letIn() {
            return letIn;
        }

        int slides() {
            return slides;
        }

        void place(Table table) {
            trial.copyFrom(table);
            int side = 1 - Rods.sideOf(trial.ballRod());
            int keeper = Rods.keeperOf(side);
            int backs = Rods.backsOf(side);
            int open = shotsPastOthers(side);
            int lastOfBacks = Rods.lastSlide(backs);
            for (int v = 0; v <= lastOfBacks && v < pastBacks.length; v++) {
                trial.slideTo(backs, v);
                pastBacks[v] = open & trial.shotsPast(backs);
            }
            letIn = 2 * WIDEST_SHOT + 2;
            for (int v = 0; v <= Rods.lastSlide(keeper); v++) {
                trial.slideTo(keeper, v);
                tryKeeper(v, trial.shotsPast(keeper), lastOfBacks);
            }
        }

        private int shotsPastOthers(int side) {
            int bits = trial.shotsToGoal();
            int step = Rods.stepToGoalOf(1 - side);
            for (int i = 1; i < RODS; i++) {
                int rod = trial.ballRod() + i * step;
                boolean isSlid = rod == Rods.keeperOf(side) || rod == Rods.backsOf(side);
                if (Rods.isOf(rod, side) && !isSlid) bits &= trial.shotsPast(rod);
            }
            return bits;
        }

        private void tryKeeper(int v, int pastKeeper, int lastOfBacks) {
            for (int w = 0; w <= lastOfBacks && w < pastBacks.length; w++) {
                int in = Integer.bitCount(pastBacks[w] & pastKeeper);
                if (in < letIn) {
                    letIn = in;
                    slides = 100 * v + w;
                }
            }
        }
    }

    /** Rods needed one after another by two hands. */
    private static final class Grasps {
        private static final int DIGITS = 4;

        static boolean isRow(int row, int n) {
            if (row < 0) return false;
            int rest = row;
            for (int i = 0; i < n; i++) {
                if (rest % 10 >= DIGITS) return false;
                rest = rest / 10;
            }
            return rest == 0;
        }

        static int fewest(int row, int n) {
            int held = 0;
            int graspings = 0;
            for (int i = 0; i < n; i++) {
                int rod = needed(row, n, i);
                if ((held >> rod & 1) == 1) continue;
                if (Integer.bitCount(held) >= HANDS) held &= ~(1 << latest(row, n, i, held));
                held |= 1 << rod;
                graspings++;
            }
            return graspings;
        }

        private static int needed(int row, int n, int i) {
            int rest = row;
            for (int k = i + 1; k < n; k++) {
                rest = rest / 10;
            }
            return rest % 10;
        }

        // Letting go of the rod that is needed last never costs a grasping more.
        private static int latest(int row, int n, int i, int held) {
            int latest = 0;
            int when = -1;
            for (int rod = 0; rod < DIGITS; rod++) {
                if ((held >> rod & 1) == 1 && nextNeed(row, n, i, rod) > when) {
                    latest = rod;
                    when = nextNeed(row, n, i, rod);
                }
            }
            return latest;
        }

        private static int nextNeed(int row, int n, int i, int rod) {
            for (int k = i + 1; k < n; k++) {
                if (needed(row, n, k) == rod) return k;
            }
            return n;
        }
    }

    /** Chances as fractions in lowest terms, told by part. */
    private static final class Chances {
        // Two numbers below 2 to the 63rd need at most some ninety steps.
        private static final int STEPS_OF_DIVISION = 200;

        static long part(long upper, long lower, int part) {
            long divisor = commonDivisor(upper, lower);
            if (divisor == 0) return 0;
            return (part == 0 ? upper : lower) / divisor;
        }

        private static long commonDivisor(long upper, long lower) {
            long a = lower;
            long b = upper;
            for (int i = 0; i < STEPS_OF_DIVISION && b != 0; i++) {
                long rest = a % b;
                a = b;
                b = rest;
            }
            return a;
        }

        // Which of the keeper's two stands is told first is no matter; in one of both orders lower is not negative.
        static long mixed(int a, int b, int c, int d, int what, int part) {
            boolean isTurned = a - b - c + d < 0;
            return isTurned ? mixedInOrder(b, a, d, c, what, part) : mixedInOrder(a, b, c, d, what, part);
        }

        private static long mixedInOrder(int a, int b, int c, int d, int what, int part) {
            int first = Math.min(a, b);
            int second = Math.min(c, d);
            int alone = Math.max(first, second);
            int lower = a - b - c + d;
            int score = a * d - b * c;
            int chance = d - c;
            // Only at this chance, where both stands of the keeper come to the same, can a mixture beat either gap alone.
            boolean needsBoth = chance > 0 && chance < lower && score > alone * lower;
            if (what == 0) return needsBoth ? part(score, TENTHS * lower, part) : part(alone, TENTHS, part);
            if (needsBoth) return part(chance, lower, part);
            return part(first >= second ? 1 : 0, 1, part);
        }

        static long isTheFirst(int a, int b, int n, int k, int part) {
            long byFirst = power(a, k) * power(TENTHS - a, n - k);
            long bySecond = power(b, k) * power(TENTHS - b, n - k);
            if (byFirst == 0) return part(0, 1, part);
            return part(byFirst, byFirst + bySecond, part);
        }

        // One's own last goal ends the race, so k is how many of the other side's came before it.
        static long winsRace(int own, int others, int t, int part) {
            long upper = 0;
            long choices = 1;
            for (int k = 0; k < others; k++) {
                upper += choices * power(t, own) * power(TENTHS - t, k) * power(TENTHS, others - 1 - k);
                choices = choices * (own + k) / (k + 1);
            }
            return part(upper, power(TENTHS, own + others - 1), part);
        }

        private static long power(int base, int times) {
            long result = 1;
            for (int i = 0; i < times; i++) {
                result *= base;
            }
            return result;
        }
    }

    /** What was seen of his shots, and the rows of sides that fit it. */
    private static final class Sights {
        // All rows of 1 to 4 sides lie between these, each as 16 times its length and its bits.
        private static final int FIRST_ROW = 16;
        private static final int LAST_ROW = 79;
        private static final int ROWS_IN_ALL = 30;

        private final int[] shots = new int[SIGHTS];
        private final int[] sides = new int[SIGHTS];
        private final int[] rows = new int[ROWS_IN_ALL];
        private int count;
        private int found;

        int size() {
            return count;
        }

        boolean add(int shot, boolean second) {
            if (count < 0 || count >= shots.length || count >= sides.length) return false;
            shots[count] = shot;
            sides[count] = second ? 1 : 0;
            count++;
            return true;
        }

        void clear() {
            count = 0;
        }

        void copyFrom(Sights other) {
            if (other == null) return;
            count = other.count;
            copyRow(other.shots, shots);
            copyRow(other.sides, sides);
        }

        int findRows() {
            found = 0;
            for (int row = FIRST_ROW; row <= LAST_ROW; row++) {
                if (isRow(row) && fitsAll(row) && found >= 0 && found < rows.length) {
                    rows[found] = row;
                    found++;
                }
            }
            return found;
        }

        int rowFound(int i) {
            return i >= 0 && i < found && i < rows.length ? rows[i] : NONE;
        }

        // This and the next speak of the rows found last.
        int bestShot() {
            int best = 0;
            for (int shot = 1; shot <= LAST_SHOT; shot++) {
                if (mostLeft(shot) < mostLeft(best)) best = shot;
            }
            return best;
        }

        int mostLeft(int shot) {
            int second = 0;
            for (int i = 0; i < found && i < rows.length; i++) {
                second += sideBy(rows[i], shot);
            }
            return Math.max(second, found - second);
        }

        private static boolean isRow(int row) {
            return row % 16 < 1 << row / 16;
        }

        private boolean fitsAll(int row) {
            for (int i = 0; i < count && i < shots.length && i < sides.length; i++) {
                if (sideBy(row, shots[i]) != sides[i]) return false;
            }
            return true;
        }

        private static int sideBy(int row, int shot) {
            int length = row / 16;
            if (length < 1) return 0;
            return row >> shot % length & 1;
        }
    }

    /** All but the pad, as it was when it was kept. */
    private static final class Image {
        private final Table table = new Table();
        private final Sights sights = new Sights();
        private boolean isKept;

        void keep(Table now, Sights seenNow) {
            table.copyFrom(now);
            sights.copyFrom(seenNow);
            isKept = true;
        }

        boolean giveBack(Table now, Sights seenNow) {
            if (!isKept || now == null || seenNow == null) return false;
            now.copyFrom(table);
            seenNow.copyFrom(sights);
            return true;
        }
    }
}
