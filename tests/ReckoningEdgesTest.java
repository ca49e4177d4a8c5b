import java.math.BigInteger;

/** The edges of part 3: paths, standing, mixing, hands; and of the chances of part 4. */
public final class ReckoningEdgesTest {
    private static final int NONE = Made.NONE, UNKNOWN = Made.UNKNOWN, OUTSIDE = Made.OUTSIDE, STATE = Made.STATE;
    private static final long LOST = Made.LOST;

    public static void main(String[] args) throws Exception {
        Sentences document = new Sentences();
        document.says("(As things are now; hands do not matter.)", ReckoningEdgesTest::asThingsAre);
        document.says("the fewest passes, along and over, none of which another SIDE gets", ReckoningEdgesTest::noneGets);
        document.says("passes, along and over", ReckoningEdgesTest::overToEach);
        document.says("the BALL comes to a MAN of the SIDE that has it", ReckoningEdgesTest::ofTheSide);
        document.says("how many (0: he has it)", ReckoningEdgesTest::hasIt);
        document.says("to whom first (10 times the ROD and the MAN, the least; NONE: 0); NONE.", ReckoningEdgesTest::toWhomFirst);
        document.says("the fewest passes", ReckoningEdgesTest::longestPath);
        document.says("UNKNOWN: ROD, MAN; OUTSIDE; STATE: the BALL is DEAD.", ReckoningEdgesTest::noPath);
        document.says("keeper and backs of the other SIDE than has the BALL are slid so that fewest d are IN: how many; "
            + "100 times the keeper's SLIDE and the backs', the least.", ReckoningEdgesTest::stands);
        document.says("STAND: how many (what = 0), SLIDES (1). OUTSIDE; STATE: the BALL is DEAD.", ReckoningEdgesTest::noStand);
        document.says("he scores with a, b tenths through the first (the keeper in the first, in the second), with c, d tenths "
            + "through the second (likewise; all 0 to 10)", ReckoningEdgesTest::mixTenths);
        document.says("by what chance he scores at the least if he mixes as well as can be", ReckoningEdgesTest::mixes);
        document.says("(if one gap alone does, that one: the first, if both do)", ReckoningEdgesTest::oneGapAlone);
        document.says("n RODS (1 to 9; digits 0 to 3 of a row of n digits, noughts ahead)", ReckoningEdgesTest::rows);
        document.says("OUTSIDE: n, a digit above 3, more digits than n.", ReckoningEdgesTest::noRows);
        document.says("two can be HELD at a time (none at first): the fewest graspings", ReckoningEdgesTest::graspings);
        document.says("he scores with a tenths (0 to 10), or with b tenths (0 to 10), as likely; he scored k times (0 to n) of n "
            + "shots (0 to 16)", ReckoningEdgesTest::trulyNumbers);
        document.says("as likely", ReckoningEdgesTest::asLikely);
        document.says("that it is a (0, if neither can be)", ReckoningEdgesTest::neitherCanBe);
        document.says("at GOALS a to b (0 to 9 each), each one being SIDE 0's with t tenths (0 to 10)", ReckoningEdgesTest::raceNumbers);
        document.says("that it has 10 first", ReckoningEdgesTest::tenFirst);
        document.says("STATE: 0 to 0.", ReckoningEdgesTest::raceFromNothing);
        document.says("Fractions are told in lowest terms by part: 0 the upper, 1 the lower number; refused with LOST and the refusal.",
            ReckoningEdgesTest::lowestTerms);
        document.finish();
    }

    private static void asThingsAre(Due due) {
        FourRods x = Made.slid(4, 0);
        x.ball(5, 1);
        due.is("none is HELD", x.path(3, 2, 0), 1);
        x.goals(0, 10);
        due.is("ten GOALS", x.path(3, 2, 0), 1);
        Due.write(x, "e(e>4");
        due.is("what is behind the pad is no matter", x.path(3, 2, 0), 1);
        x.hold(5, true);
        due.is("it is HELD", x.path(3, 2, 0), 1);
        x.slide(4, 4);
        due.is("e covers 20", x.path(3, 2, 0), NONE);
    }

    private static void noneGets(Due due) {
        // d at 12 over to f at 12: e's second man at 10 to 14.
        for (int slide = 2; slide <= 6; slide++) {
            FourRods x = Made.played(3, 1, 5, 12, 4, slide);
            boolean isCaught = slide >= 3 && slide <= 5;
            due.is("e at " + (slide + 8), x.path(5, 0, 0), isCaught ? NONE : 1);
            due.is("e at " + (slide + 8), x.path(5, 0, 1), isCaught ? NONE : 50);
        }
        // Four off can not be either, but along d there is one who is nearer.
        FourRods y = Made.played(3, 2, 4, 0, 5, 4);
        due.is("f's first at 4, d's third at 20, first at 4", y.path(5, 0, 0), 3);
        due.is("along d first", y.path(5, 0, 1), 31);
        due.is("f's second at 16, four off from both beside it: by f's third at 28", y.path(5, 1, 0), 3);
        due.is("along d the other way first", y.path(5, 1, 1), 33);
    }

    /** Over from each rod to each other one of its side, the first and the last among them. */
    private static void overToEach(Due due) {
        int[] inLine = {20, 4, 8, 4, 4, 8, 4, 20};
        int[] whoInLine = {0, 1, 1, 2, 2, 1, 1, 0};
        for (int side = 0; side < 2; side++) {
            for (int from : Made.RODS_OF[side]) {
                FourRods x = new FourRods();
                for (int rod : Made.RODS_OF[side]) x.slide(rod, inLine[rod]);
                for (int rod : Made.RODS_OF[1 - side]) x.slide(rod, 0);
                x.ball(from, whoInLine[from]);
                for (int to : Made.RODS_OF[side]) {
                    due.is("from " + from + " to " + to, x.path(to, whoInLine[to], 0), to == from ? 0 : 1);
                    due.is("from " + from + " to " + to, x.path(to, whoInLine[to], 1), to == from ? NONE : 10 * to + whoInLine[to]);
                }
            }
        }
    }

    private static void ofTheSide(Due due) {
        for (int side = 0; side < 2; side++) {
            FourRods x = Made.played(Made.RODS_OF[side][2], 0);
            for (int rod : Made.RODS_OF[1 - side]) {
                for (int man = 0; man < Made.MEN[rod]; man++) {
                    for (int what = 0; what < 2; what++) due.is("the other SIDE's " + rod, x.path(rod, man, what), NONE);
                }
            }
            for (int man = 0; man < 5; man++) due.is("its own", x.path(Made.RODS_OF[side][2], man, 0), man);
        }
    }

    private static void hasIt(Due due) {
        for (int rod = 0; rod < 8; rod++) {
            for (int man = 0; man < Made.MEN[rod]; man++) {
                FourRods x = Made.played(rod, man);
                due.is("he has it", x.path(rod, man, 0), 0);
                due.is("to whom first", x.path(rod, man, 1), NONE);
                if (man > 0) {
                    due.is("the one beside him", x.path(rod, man - 1, 0), 1);
                    due.is("to whom first", x.path(rod, man - 1, 1), 10 * rod + man - 1);
                }
            }
        }
    }

    private static void toWhomFirst(Due due) {
        // e aside: f at 20 over to d at 20, c in between d and a covers 20, or not.
        FourRods x = Made.played(5, 1, 4, 0);
        due.is("none comes to a", x.path(0, 0, 0), NONE);
        due.is("none comes to a", x.path(0, 0, 1), NONE);
        x.slide(2, 10);
        due.is("f over to a", x.path(0, 0, 0), 1);
        due.is("to a first", x.path(0, 0, 1), 0);
        FourRods y = Made.played(3, 0, 4, 0, 5, 6);
        due.is("d's first at 4, f's at 6 and 18, d's second at 12", y.path(5, 1, 0), 2);
        due.is("by f's first alone: d's second is 6 off", y.path(5, 1, 1), 50);
        y.slide(5, 3);
        y.slide(3, 3);
        // d 3 11 19 27 35, f 3 15 27: to f's second over f's first; d's second is 4 off.
        due.is("to f's second", y.path(5, 1, 1), 50);
        y.slide(5, 2);
        // f 2 14 26: f's second is 3 off d's second, so by f's first or by d's second: the least.
        due.is("two ways of two passes", y.path(5, 1, 0), 2);
        due.is("the least of both", y.path(5, 1, 1), 31);
        FourRods z = Made.played(5, 0, 4, 0, 5, 2, 3, 3);
        due.is("back: to d's second by d's first or by f's second", z.path(3, 1, 0), 2);
        due.is("the least of both", z.path(3, 1, 1), 30);
    }

    /** All eleven men of a side, one after another. */
    private static void longestPath(Due due) {
        FourRods x = Made.played(1, 0, 0, 5, 1, 15, 2, 15, 3, 2, 4, 1, 5, 2, 6, 16, 7, 34);
        due.is("ten passes", x.path(5, 2, 0), 10);
        due.is("b's second first", x.path(5, 2, 1), 11);
    }

    private static void noPath(Due due) {
        FourRods x = new FourRods();
        for (int rod = 0; rod < 8; rod++) {
            due.is("one man more of " + rod, x.path(rod, Made.MEN[rod], 0), UNKNOWN);
            due.is("man -1 of " + rod, x.path(rod, -1, 0), UNKNOWN);
            due.is("the last of " + rod, x.path(rod, Made.MEN[rod] - 1, 0), STATE);
        }
        due.is("path(0, 0, -1)", x.path(0, 0, -1), OUTSIDE);
        due.is("path(0, 0, 2)", x.path(0, 0, 2), OUTSIDE);
        due.is("path(0, 0, 1)", x.path(0, 0, 1), STATE);
        x.ball(7, 0);
        due.is("path(0, 0, 2)", x.path(0, 0, 2), OUTSIDE);
        due.is("path(0, 0, 1)", x.path(0, 0, 1), NONE);
    }

    /** All slides of both, one by one. */
    private static void stands(Due due) {
        int[][] slides = {{}, {0, 40, 1, 24, 6, 24, 7, 40}, {4, 0, 3, 0}, {5, 4, 2, 15, 4, 3, 3, 0},
            // The best backs near the end of their slide, the best keeper far, none let in by any, five let in by all.
            {0, 38, 1, 6, 2, 11, 3, 0, 4, 0, 5, 1, 6, 6, 7, 14}, {0, 25, 1, 23, 2, 7, 3, 5, 4, 2, 5, 16, 6, 11, 7, 4},
            {0, 4, 1, 8, 2, 10, 3, 3, 4, 8, 5, 2, 6, 5, 7, 33}, {0, 13, 1, 8, 2, 2, 3, 8, 4, 4, 5, 7, 6, 12, 7, 36}};
        int[][] balls = {{0, 0, 3, 2, 5, 1, 2, 0, 7, 0}, {0, 0, 5, 2, 7, 0, 2, 2}, {1, 1, 6, 0}, {4, 4, 3, 4}, {7, 0}, {4, 1}, {3, 4}, {4, 2}};
        for (int i = 0; i < slides.length; i++) {
            for (int k = 0; k + 1 < balls[i].length; k += 2) {
                int rod = balls[i][k];
                int man = balls[i][k + 1];
                boolean isFirst = rod == 0 || rod == 1 || rod == 3 || rod == 5;
                FourRods x = Made.played(rod, man, slides[i]);
                int fewest = 20;
                int least = 0;
                for (int keeper = 0; keeper <= 40; keeper++) {
                    FourRods y = Made.played(rod, man, slides[i]);
                    y.slide(isFirst ? 7 : 0, keeper);
                    for (int backs = 0; backs <= 24; backs++) {
                        y.slide(isFirst ? 6 : 1, backs);
                        int in = Integer.bitCount(y.goesIn());
                        if (in < fewest) {
                            fewest = in;
                            least = 100 * keeper + backs;
                        }
                    }
                }
                due.is("table " + i + ", ball " + rod + " " + man + ": how many", x.stand(0), fewest);
                due.is("table " + i + ", ball " + rod + " " + man + ": SLIDES", x.stand(1), least);
                for (int r = 0; r < 8; r++) due.is("nothing is slid in fact", x.told(20 + r), Made.played(rod, man, slides[i]).told(20 + r));
            }
        }
        due.is("none is let in however they stand: the least of all", Made.played(3, 4, slides[6]).stand(1), 0);
        due.is("five are let in however they stand", Made.played(4, 2, slides[7]).stand(0), 5);
    }

    private static void noStand(Due due) {
        FourRods x = new FourRods();
        due.is("stand(-1)", x.stand(-1), OUTSIDE);
        due.is("stand(2)", x.stand(2), OUTSIDE);
        for (int what = 0; what < 2; what++) due.is("DEAD", x.stand(what), STATE);
        x.ball(0, 0);
        due.is("stand(-1)", x.stand(-1), OUTSIDE);
        due.is("stand(2)", x.stand(2), OUTSIDE);
        for (int what = 0; what < 2; what++) due.holds("with a man", x.stand(what) >= 0);
    }

    private static void mixTenths(Due due) {
        FourRods x = new FourRods();
        int[] ends = {Integer.MIN_VALUE, -1, 11, Integer.MAX_VALUE};
        for (int i = 0; i < 4; i++) {
            for (int v : ends) {
                int[] n = {5, 5, 5, 5};
                n[i] = v;
                for (int k = 0; k < 4; k++) due.is(v + " at " + i, x.mix(n[0], n[1], n[2], n[3], k / 2, k % 2), LOST + OUTSIDE);
            }
            for (int v = 0; v <= 10; v += 10) {
                int[] n = {5, 5, 5, 5};
                n[i] = v;
                due.holds(v + " at " + i, x.mix(n[0], n[1], n[2], n[3], 0, 1) > 0);
            }
        }
        for (int v : new int[] {-1, 2}) {
            due.is("what " + v, x.mix(5, 5, 5, 5, v, 0), LOST + OUTSIDE);
            due.is("part " + v, x.mix(5, 5, 5, 5, 0, v), LOST + OUTSIDE);
        }
    }

    private static void mixes(Due due) {
        mixed(due, 0, 10, 10, 0, 1, 2, 1, 2);
        mixed(due, 10, 0, 0, 10, 1, 2, 1, 2);
        mixed(due, 0, 1, 1, 0, 1, 20, 1, 2);
        mixed(due, 9, 10, 10, 9, 19, 20, 1, 2);
        mixed(due, 10, 9, 9, 10, 19, 20, 1, 2);
        mixed(due, 1, 10, 7, 2, 17, 35, 5, 14);
        mixed(due, 10, 1, 2, 7, 17, 35, 5, 14);
        mixed(due, 7, 2, 1, 10, 17, 35, 9, 14);
        mixed(due, 0, 10, 1, 0, 1, 11, 1, 11);
        mixed(due, 0, 1, 10, 0, 1, 11, 10, 11);
        mixed(due, 5, 7, 6, 5, 17, 30, 1, 3);
    }

    private static void oneGapAlone(Due due) {
        mixed(due, 0, 0, 0, 0, 0, 1, 1, 1);
        mixed(due, 10, 10, 10, 10, 1, 1, 1, 1);
        mixed(due, 10, 10, 0, 0, 1, 1, 1, 1);
        mixed(due, 0, 0, 10, 10, 1, 1, 0, 1);
        mixed(due, 0, 10, 0, 10, 0, 1, 1, 1);
        mixed(due, 2, 5, 2, 7, 1, 5, 1, 1);
        mixed(due, 5, 2, 7, 2, 1, 5, 1, 1);
        // The second alone by one tenth.
        mixed(due, 2, 5, 3, 7, 3, 10, 0, 1);
        // The first alone does, and so do mixtures; the second alone does, and so do mixtures.
        mixed(due, 5, 10, 5, 0, 1, 2, 1, 1);
        mixed(due, 5, 0, 5, 10, 1, 2, 0, 1);
        mixed(due, 5, 5, 0, 10, 1, 2, 1, 1);
        mixed(due, 0, 10, 5, 5, 1, 2, 0, 1);
        mixed(due, 0, 0, 0, 1, 0, 1, 1, 1);
    }

    private static void mixed(Due due, int a, int b, int c, int d, int upper, int lower, int firstUpper, int firstLower) {
        FourRods x = new FourRods();
        String call = "mix of " + a + " " + b + " " + c + " " + d;
        due.is(call + ": he scores, upper", x.mix(a, b, c, d, 0, 0), upper);
        due.is(call + ": he scores, lower", x.mix(a, b, c, d, 0, 1), lower);
        due.is(call + ": the first gap, upper", x.mix(a, b, c, d, 1, 0), firstUpper);
        due.is(call + ": the first gap, lower", x.mix(a, b, c, d, 1, 1), firstLower);
    }

    private static void rows(Due due) {
        FourRods x = new FourRods();
        int ones = 0;
        int threes = 0;
        for (int n = 1; n <= 9; n++) {
            ones = 10 * ones + 1;
            threes = 10 * threes + 3;
            due.is(n + " noughts", x.hands(0, n), 1);
            due.is(n + " ones", x.hands(ones, n), 1);
            due.is(n + " threes", x.hands(threes, n), 1);
            due.is("noughts ahead of a 3, in all " + n, x.hands(3, n), n == 1 ? 1 : 2);
        }
        due.is("0 to 3 are four", x.hands(123, 4), 4);
    }

    private static void noRows(Due due) {
        FourRods x = new FourRods();
        for (int n : new int[] {0, -1, 10, Integer.MIN_VALUE, Integer.MAX_VALUE}) due.is("n " + n, x.hands(0, n), OUTSIDE);
        int power = 1;
        for (int n = 1; n <= 9; n++) {
            for (int digit = 4; digit <= 9; digit++) {
                if (n < 9 || digit < 3) due.is("the first of " + n + " is " + digit, x.hands(power * digit, n), OUTSIDE);
                due.is("the last of " + n + " is " + digit, x.hands(digit, n), OUTSIDE);
            }
            due.is("4 ahead of eight", x.hands(400000000, 9), OUTSIDE);
            due.is("3 ahead", x.hands(power * 3, n), n == 1 ? 1 : 2);
            if (n < 9) due.is("a digit more than " + n, x.hands(power * 10, n), OUTSIDE);
            power *= n < 9 ? 10 : 1;
        }
        due.is("ten digits", x.hands(1000000000, 9), OUTSIDE);
        due.is("ten digits", x.hands(2133333333, 9), OUTSIDE);
        due.is("below 0", x.hands(-1, 9), OUTSIDE);
        due.is("below 0", x.hands(-3, 1), OUTSIDE);
        due.is("far below 0", x.hands(Integer.MIN_VALUE, 9), OUTSIDE);
        due.is("far above", x.hands(Integer.MAX_VALUE, 9), OUTSIDE);
    }

    private static void graspings(Due due) {
        FourRods x = new FourRods();
        due.is("the first is a grasping, too", x.hands(0, 1), 1);
        due.is("0 1", x.hands(1, 2), 2);
        due.is("0 1 0 1 0 1 0 1 0", x.hands(10101010, 9), 2);
        due.is("0 1 2", x.hands(12, 3), 3);
        due.is("0 1 2 0: 1 is let go for 2", x.hands(120, 4), 3);
        due.is("0 1 2 1: 0 is let go for 2", x.hands(121, 4), 3);
        due.is("0 1 2 0 1", x.hands(1201, 5), 4);
        due.is("0 1 2 3 0 1 2 3 0", x.hands(12301230, 9), 7);
        due.is("0 1 2 0 1 2 0 1 2", x.hands(12012012, 9), 6);
        due.is("3 3 2 2 1 1 0 0 3", x.hands(332211003, 9), 4);
    }

    private static void trulyNumbers(Due due) {
        FourRods x = new FourRods();
        int[][] taken = {{0, 5, 3, 2}, {10, 5, 3, 2}, {5, 0, 3, 2}, {5, 10, 3, 2}, {5, 4, 0, 0}, {5, 4, 16, 0}, {5, 4, 16, 16}, {5, 4, 1, 1}};
        for (int[] n : taken) due.holds("taken", x.truly(n[0], n[1], n[2], n[3], 1) > 0);
        int[][] refused = {{-1, 5, 3, 2}, {11, 5, 3, 2}, {5, -1, 3, 2}, {5, 11, 3, 2}, {5, 4, -1, 0}, {5, 4, -1, -1}, {5, 4, 17, 0}, {5, 4, 17, 17},
            {5, 4, 16, 17}, {5, 4, 16, -1}, {5, 4, 0, 1}, {5, 4, 0, -1}, {5, 4, 1, 2}, {5, 4, Integer.MAX_VALUE, 1}, {5, 4, 1, Integer.MIN_VALUE}};
        for (int[] n : refused) {
            for (int part = 0; part < 2; part++) {
                due.is("truly of " + n[0] + " " + n[1] + " " + n[2] + " " + n[3], x.truly(n[0], n[1], n[2], n[3], part), LOST + OUTSIDE);
            }
        }
        due.is("part -1", x.truly(5, 4, 3, 2, -1), LOST + OUTSIDE);
        due.is("part 2", x.truly(5, 4, 3, 2, 2), LOST + OUTSIDE);
    }

    private static void asLikely(Due due) {
        for (int a = 0; a <= 10; a++) {
            for (int b = 0; b <= 10; b++) truly(due, a, b, 0, 0, 1, 2);
        }
        truly(due, 7, 5, 1, 1, 7, 12);
        truly(due, 5, 7, 1, 1, 5, 12);
        truly(due, 7, 5, 1, 0, 3, 8);
        truly(due, 1, 9, 16, 16, 1, 1853020188851842L);
        truly(due, 9, 1, 16, 16, 1853020188851841L, 1853020188851842L);
        truly(due, 10, 9, 16, 16, 10000000000000000L, 11853020188851841L);
        truly(due, 0, 1, 16, 0, 10000000000000000L, 11853020188851841L);
        truly(due, 5, 5, 16, 8, 1, 2);
        truly(due, 10, 10, 16, 16, 1, 2);
        truly(due, 0, 0, 16, 0, 1, 2);
    }

    private static void neitherCanBe(Due due) {
        truly(due, 0, 0, 1, 1, 0, 1);
        truly(due, 10, 10, 1, 0, 0, 1);
        truly(due, 0, 10, 2, 1, 0, 1);
        truly(due, 10, 0, 16, 8, 0, 1);
        // One of both can be.
        truly(due, 10, 0, 1, 0, 0, 1);
        truly(due, 10, 0, 1, 1, 1, 1);
        truly(due, 0, 10, 16, 0, 1, 1);
        truly(due, 0, 10, 16, 16, 0, 1);
        truly(due, 0, 5, 16, 1, 0, 1);
        truly(due, 5, 0, 16, 1, 1, 1);
        truly(due, 5, 10, 16, 15, 1, 1);
    }

    private static void truly(Due due, int a, int b, int n, int k, long upper, long lower) {
        FourRods x = new FourRods();
        String call = "truly of " + a + " " + b + " " + n + " " + k;
        due.is(call + ", upper", x.truly(a, b, n, k, 0), upper);
        due.is(call + ", lower", x.truly(a, b, n, k, 1), lower);
    }

    private static void raceNumbers(Due due) {
        FourRods x = new FourRods();
        int[][] taken = {{0, 1, 5}, {1, 0, 5}, {9, 0, 5}, {0, 9, 5}, {9, 9, 5}, {3, 4, 0}, {3, 4, 10}};
        for (int[] n : taken) due.holds("taken", x.race(n[0], n[1], n[2], 1) > 0);
        int[][] refused = {{-1, 1, 5}, {10, 1, 5}, {1, -1, 5}, {1, 10, 5}, {1, 1, -1}, {1, 1, 11}, {0, 0, -1}, {0, 0, 11}, {10, 10, 5},
            {Integer.MIN_VALUE, 1, 5}, {1, Integer.MAX_VALUE, 5}};
        for (int[] n : refused) {
            for (int part = 0; part < 2; part++) {
                due.is("race of " + n[0] + " " + n[1] + " " + n[2], x.race(n[0], n[1], n[2], part), LOST + OUTSIDE);
            }
        }
        for (int part : new int[] {-1, 2}) {
            due.is("part " + part, x.race(1, 1, 5, part), LOST + OUTSIDE);
            due.is("part " + part + " from nothing", x.race(0, 0, 5, part), LOST + OUTSIDE);
        }
    }

    /** 9 to 9 is the next one's; all else is by the next one's, too. */
    private static void tenFirst(Due due) {
        FourRods x = new FourRods();
        for (int t = 0; t <= 10; t++) {
            for (int a = 0; a <= 9; a++) {
                for (int b = 0; b <= 9; b++) {
                    if (a == 0 && b == 0) continue;
                    if ((b & 3) == 0) x = new FourRods();
                    BigInteger[] own = a == 9 ? fraction(1, 1) : fraction(x.race(a + 1, b, t, 0), x.race(a + 1, b, t, 1));
                    BigInteger[] others = b == 9 ? fraction(0, 1) : fraction(x.race(a, b + 1, t, 0), x.race(a, b + 1, t, 1));
                    BigInteger[] told = fraction(x.race(a, b, t, 0), x.race(a, b, t, 1));
                    BigInteger upper = own[0].multiply(others[1]).multiply(BigInteger.valueOf(t))
                        .add(others[0].multiply(own[1]).multiply(BigInteger.valueOf(10 - t)));
                    BigInteger lower = own[1].multiply(others[1]).multiply(BigInteger.TEN);
                    due.holds("race of " + a + " " + b + " " + t + " is by the next one's", upper.multiply(told[1]).equals(lower.multiply(told[0])));
                }
            }
        }
        race(due, 9, 9, 0, 0, 1);
        race(due, 9, 9, 10, 1, 1);
        race(due, 0, 9, 10, 1, 1);
        race(due, 9, 0, 0, 0, 1);
        race(due, 9, 9, 7, 7, 10);
        race(due, 9, 8, 7, 91, 100);
        race(due, 8, 9, 7, 49, 100);
        race(due, 0, 1, 5, 53381, 131072);
        race(due, 1, 0, 5, 77691, 131072);
        race(due, 1, 0, 7, 97903201187812951L, 100000000000000000L);
    }

    private static BigInteger[] fraction(long upper, long lower) {
        return new BigInteger[] {BigInteger.valueOf(upper), BigInteger.valueOf(lower)};
    }

    private static void race(Due due, int a, int b, int t, long upper, long lower) {
        FourRods x = new FourRods();
        due.is("race of " + a + " " + b + " " + t + ", upper", x.race(a, b, t, 0), upper);
        due.is("race of " + a + " " + b + " " + t + ", lower", x.race(a, b, t, 1), lower);
    }

    private static void raceFromNothing(Due due) {
        FourRods x = new FourRods();
        for (int t = 0; t <= 10; t++) {
            for (int part = 0; part < 2; part++) due.is("0 to 0 with " + t, x.race(0, 0, t, part), LOST + STATE);
        }
        for (int part = 0; part < 2; part++) {
            due.holds("0 to 1", x.race(0, 1, 5, part) > 0);
            due.holds("1 to 0", x.race(1, 0, 5, part) > 0);
        }
    }

    private static void lowestTerms(Due due) {
        FourRods x = new FourRods();
        for (int i = 0; i < 11 * 11 * 11; i++) {
            if (i % 60 == 0) x = new FourRods();
            int a = i % 11;
            int b = i / 11 % 11;
            int c = i / 121;
            for (int what = 0; what < 2; what++) lowest(due, "mix", x.mix(a, b, c, (a + 2 * b + 3 * c) % 11, what, 0), x.mix(a, b, c, (a + 2 * b + 3 * c) % 11, what, 1));
            int n = (a + b + c) % 17;
            lowest(due, "truly", x.truly(a, b, n, c % (n + 1), 0), x.truly(a, b, n, c % (n + 1), 1));
            if (a < 10 && b < 10 && a + b > 0) lowest(due, "race", x.race(a, b, c, 0), x.race(a, b, c, 1));
        }
    }

    private static void lowest(Due due, String call, long upper, long lower) {
        due.holds(call + ": the lower number is above 0", lower > 0);
        due.holds(call + ": the upper number is 0 to the lower", upper >= 0 && upper <= lower);
        due.is(call + ": in lowest terms", BigInteger.valueOf(upper).gcd(BigInteger.valueOf(lower)).longValue(), 1);
    }
}
