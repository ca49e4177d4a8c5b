/** The edges of part 1: rods, hands, the ball, goals, the pad and its faults. */
public final class TableEdgesTest {
    private static final int NONE = Made.NONE, UNKNOWN = Made.UNKNOWN, OUTSIDE = Made.OUTSIDE, FULL = Made.FULL;
    private static final String SIXTY = ".".repeat(60);

    public static void main(String[] args) throws Exception {
        Sentences document = new Sentences();
        document.says("RODS 0 to 7 (a to h) lie across the TABLE", TableEdgesTest::rods);
        document.says("RODS 0 to 7 (a to h)", TableEdgesTest::rodLetters);
        document.says("SIDE 0 has RODS 0, 1, 3, 5 (with 1, 2, 5, 3 MEN), SIDE 1 has RODS 7, 6, 4, 2 (likewise)", TableEdgesTest::men);
        document.says("The TABLE is 0 to 40 wide.", TableEdgesTest::width);
        document.says("MAN i (0 on) of a ROD stands at its SLIDE and i times 0, 16, 8, 12 (of 1, 2, 5, 3 MEN)", TableEdgesTest::places);
        document.says("SLIDE is 0 to 40, 24, 8, 16", TableEdgesTest::slides);
        document.says("(half of it at first)", TableEdgesTest::firstSlides);
        document.says("so all stand on the TABLE", TableEdgesTest::allOnTheTable);
        document.says("A ROD COVERS where one of its MEN stands, and 1 to either side.", TableEdgesTest::covers);
        document.says("A ROD COVERS", TableEdgesTest::coversAtTheWalls);
        document.says("it HOLDS two of its RODS at the most", TableEdgesTest::twoHands);
        document.says("Each SIDE has two hands", TableEdgesTest::handsOfEach);
        document.says("(none at first)", TableEdgesTest::noneHeldAtFirst);
        document.says("how many it HOLDS. UNKNOWN; FULL: two others.", TableEdgesTest::full);
        document.says("The BALL is with a MAN, or DEAD (at first).", TableEdgesTest::deadAtFirst);
        document.says("The BALL is with a MAN (rod -1: DEAD): 1.", TableEdgesTest::deadBall);
        document.says("UNKNOWN: both (of a DEAD one the MAN is no matter).", TableEdgesTest::noSuchMan);
        document.says("GOALS of each SIDE are 0 to 10 (0 at first).", TableEdgesTest::goals);
        document.says("It is tenth 0 at first.", TableEdgesTest::firstTenth);
        document.says("a text on a PAD (60 SIGNS at most", TableEdgesTest::padSize);
        document.says("codes 33 to 126)", TableEdgesTest::codes);
        document.says("Signs go: how many there were.", TableEdgesTest::wiping);
        document.says("a ROD's letter and: ( (its SIDE HOLDS it), ) (lets it go), < or > and a digit 1 to 9", TableEdgesTest::handling);
        document.says("p and a digit 0 to 4", TableEdgesTest::along);
        document.says("P and a ROD's letter", TableEdgesTest::over);
        document.says("s and < or > and a digit 0 to 9", TableEdgesTest::shots);
        document.says("! and a ROD's letter and a digit 0 to 4", TableEdgesTest::thrownIn);
        document.says(". (a tenth)", TableEdgesTest::tenth);
        document.says("the place (from 0 on) of the first sign that can not stand there", TableEdgesTest::firstFault);
        document.says("the number of signs, if more must come", TableEdgesTest::moreMustCome);
        document.says("(an empty PAD has none)", TableEdgesTest::emptyPad);
        document.finish();
    }

    private static void rods(Due due) {
        FourRods x = new FourRods();
        for (int rod : new int[] {-1, 8, Integer.MIN_VALUE, Integer.MAX_VALUE}) {
            due.is("slide of rod " + rod, x.slide(rod, 0), UNKNOWN);
            due.is("hold of rod " + rod, x.hold(rod, true), UNKNOWN);
            due.is("letting go of rod " + rod, x.hold(rod, false), UNKNOWN);
            due.is("behind of rod " + rod, x.behind(rod, 0), UNKNOWN);
            due.is("path to rod " + rod, x.path(rod, 0, 0), UNKNOWN);
            if (rod != -1) due.is("ball to rod " + rod, x.ball(rod, 0), UNKNOWN);
        }
        for (int rod : new int[] {0, 7}) {
            due.is("slide of rod " + rod, x.slide(rod, 3), 20);
            due.is("hold of rod " + rod, x.hold(rod, true), 1);
            due.is("behind of rod " + rod, x.behind(rod, 0), 3);
            due.is("ball to rod " + rod, x.ball(rod, 0), 1);
            due.is("path to rod " + rod, x.path(rod, 0, 0), 0);
        }
        due.is("told(20)", x.told(20), 3);
        due.is("told(27)", x.told(27), 3);
        due.is("both are held", x.told(1), 1 + 128);
    }

    private static void rodLetters(Due due) {
        FourRods x = new FourRods();
        for (int rod = 0; rod < 8; rod++) {
            char letter = (char) ('a' + rod);
            Due.write(x, letter + "(");
            for (int other = 0; other < 8; other++) {
                due.is(letter + "(: HELD of " + other, x.behind(other, 1), other == rod ? 1 : 0);
            }
            Due.write(x, "!" + letter + "0");
            due.is("!" + letter + "0: the ROD", x.then(0), rod);
        }
        for (char sign : new char[] {'`', 'i', 'A', 'H'}) {
            due.is(sign + "(", faultOf(sign + "("), 0);
            due.is("P" + sign, faultOf("P" + sign), 1);
            due.is("!" + sign + "0", faultOf("!" + sign + "0"), 1);
        }
    }

    private static void men(Due due) {
        FourRods x = new FourRods();
        int[][] men = {{1, 2, 5, 3}, {1, 2, 5, 3}};
        for (int side = 0; side < 2; side++) {
            for (int i = 0; i < 4; i++) {
                int rod = Made.RODS_OF[side][i];
                due.is("the last man of " + rod, x.ball(rod, men[side][i] - 1), 1);
                due.is("one man more of " + rod, x.ball(rod, men[side][i]), UNKNOWN);
                due.is("the first man of " + rod, x.ball(rod, 0), 1);
                due.is("man -1 of " + rod, x.ball(rod, -1), UNKNOWN);
                due.is("path to the last man of " + rod, x.path(rod, men[side][i] - 1, 0), men[side][i] - 1);
                due.is("path to one man more of " + rod, x.path(rod, men[side][i], 0), UNKNOWN);
                due.is("path to man -1 of " + rod, x.path(rod, -1, 0), UNKNOWN);
                for (int other = 0; other < 8; other++) {
                    boolean isOwn = other == Made.RODS_OF[side][0] || other == Made.RODS_OF[side][1]
                        || other == Made.RODS_OF[side][2] || other == Made.RODS_OF[side][3];
                    FourRods y = new FourRods();
                    y.hold(rod, true);
                    due.is("holding " + other + " beside " + rod, y.hold(other, true), isOwn && other != rod ? 2 : 1);
                }
            }
        }
    }

    private static void width(Due due) {
        FourRods x = new FourRods();
        due.is("the keeper at 0", x.slide(0, 0), 20);
        due.is("the keeper at 40", x.slide(0, 40), 0);
        due.is("the keeper at 41", x.slide(0, 41), OUTSIDE);
        due.is("the keeper at -1", x.slide(0, -1), OUTSIDE);
        due.is("where he stands", x.told(100), 40);
    }

    private static void places(Due due) {
        for (int rod = 0; rod < 8; rod++) {
            for (int slide = 0; slide <= Made.LAST_SLIDE[rod]; slide++) {
                FourRods x = Made.slid(rod, slide);
                for (int man = 0; man < Made.MEN[rod]; man++) {
                    due.is("rod " + rod + " at " + slide + ", man " + man, x.told(100 + 10 * rod + man), slide + man * Made.APART[rod]);
                    x.ball(rod, man);
                    due.is("the ball with man " + man + " of rod " + rod, x.then(2), slide + man * Made.APART[rod]);
                }
            }
        }
    }

    private static void slides(Due due) {
        int[] lasts = {40, 24, 8, 16};
        for (int side = 0; side < 2; side++) {
            for (int i = 0; i < 4; i++) {
                int rod = Made.RODS_OF[side][i];
                FourRods x = new FourRods();
                due.is("rod " + rod + " to 0", x.slide(rod, 0), lasts[i] / 2);
                due.is("rod " + rod + " to -1", x.slide(rod, -1), OUTSIDE);
                due.is("it is at", x.told(20 + rod), 0);
                due.is("rod " + rod + " to the last", x.slide(rod, lasts[i]), 0);
                due.is("rod " + rod + " beyond", x.slide(rod, lasts[i] + 1), OUTSIDE);
                due.is("it is at", x.told(20 + rod), lasts[i]);
                due.is("rod " + rod + " far beyond", x.slide(rod, Integer.MAX_VALUE), OUTSIDE);
                due.is("rod " + rod + " far below", x.slide(rod, Integer.MIN_VALUE), OUTSIDE);
                due.is("rod " + rod + " to where it is", x.slide(rod, lasts[i]), lasts[i]);
            }
        }
    }

    private static void firstSlides(Due due) {
        FourRods x = new FourRods();
        int[] halves = {20, 12, 8, 4, 4, 8, 12, 20};
        for (int rod = 0; rod < 8; rod++) due.is("told(" + (20 + rod) + ")", x.told(20 + rod), halves[rod]);
    }

    private static void allOnTheTable(Due due) {
        for (int rod = 0; rod < 8; rod++) {
            due.is("the first man of " + rod, Made.slid(rod, 0).told(100 + 10 * rod), 0);
            due.is("the last man of " + rod, Made.slid(rod, Made.LAST_SLIDE[rod]).told(100 + 10 * rod + Made.MEN[rod] - 1), 40);
        }
    }

    /** Straight shots of a keeper from each place, at rods in the middle: c 8 20 32, e 4 12 20 28 36, g 12 28, h 20. */
    private static void covers(Due due) {
        String ends = "777" + "444" + "7" + "222" + "7" + "444" + "7" + "8888" + "222" + "8888" + "7" + "444" + "7" + "222" + "7" + "444" + "777";
        String backEnds = ends.replace('2', '5').replace('4', '3').replace('7', '0');
        for (int place = 0; place <= 40; place++) {
            due.is("a straight shot of a from " + place, Made.played(0, 0, 0, place).ends(0), ends.charAt(place) - '0');
            due.is("a straight shot of h from " + place, Made.played(7, 0, 7, place).ends(0), backEnds.charAt(place) - '0');
        }
        // The keeper at 18 to 22, a straight shot at 20 past g at 12 and 28.
        int[] keeperEnds = {8, 7, 7, 7, 8};
        for (int i = 0; i < 5; i++) due.is("the keeper at " + (18 + i), Made.played(5, 1, 7, 18 + i).ends(0), keeperEnds[i]);
    }

    private static void coversAtTheWalls(Due due) {
        due.is("0, a back at 0", Made.played(5, 0, 5, 0, 6, 0).ends(0), 6);
        due.is("0, a back at 1", Made.played(5, 0, 5, 0, 6, 1).ends(0), 6);
        due.is("0, a back at 2", Made.played(5, 0, 5, 0, 6, 2).ends(0), 7);
        due.is("40, a back at 40", Made.played(5, 2, 5, 16, 6, 24).ends(0), 6);
        due.is("40, a back at 39", Made.played(5, 2, 5, 16, 6, 23).ends(0), 6);
        due.is("40, a back at 38", Made.played(5, 2, 5, 16, 6, 22).ends(0), 7);
        due.is("1, a back at 0", Made.played(5, 0, 5, 1, 6, 0).ends(0), 6);
        due.is("2, a back at 0", Made.played(5, 0, 5, 2, 6, 0).ends(0), 7);
    }

    private static void twoHands(Due due) {
        for (int[] rods : Made.RODS_OF) {
            for (int one : rods) {
                for (int other : rods) {
                    if (one == other) continue;
                    FourRods x = new FourRods();
                    due.is("the first", x.hold(one, true), 1);
                    due.is("the second", x.hold(other, true), 2);
                    for (int third : rods) {
                        if (third == one || third == other) continue;
                        due.is("a third", x.hold(third, true), FULL);
                        due.is("both are held still", x.told(1), 1 << one | 1 << other);
                        due.judged(x, (char) ('a' + third) + "(", 0, 4);
                    }
                }
            }
        }
    }

    private static void handsOfEach(Due due) {
        FourRods x = new FourRods();
        due.is("a", x.hold(0, true), 1);
        due.is("b", x.hold(1, true), 2);
        due.is("h of the other side", x.hold(7, true), 1);
        due.is("g of the other side", x.hold(6, true), 2);
        due.is("all four", x.told(1), 1 + 2 + 64 + 128);
        due.is("a let go", x.hold(0, false), 1);
        due.is("the other side has no hand more", x.hold(4, true), FULL);
        due.is("its own has", x.hold(5, true), 2);
        due.is("b let go", x.hold(1, false), 1);
        due.is("f let go", x.hold(5, false), 0);
        due.is("the other side's two", x.told(1), 64 + 128);
    }

    private static void noneHeldAtFirst(Due due) {
        FourRods x = new FourRods();
        due.is("told(1)", x.told(1), 0);
        for (int rod = 0; rod < 8; rod++) {
            due.is("HELD of " + rod, x.behind(rod, 1), 0);
            due.is("letting go what is not held", x.hold(rod, false), 0);
        }
    }

    private static void full(Due due) {
        FourRods x = new FourRods();
        x.hold(0, true);
        due.is("one other: no matter", x.hold(3, true), 2);
        due.is("two, it is one of them", x.hold(3, true), 2);
        due.is("two, it is one of them", x.hold(0, true), 2);
        due.is("two others", x.hold(5, true), FULL);
        due.is("two others, it is let go", x.hold(5, false), 2);
        due.is("told(1)", x.told(1), 1 + 8);
        due.is("one is let go", x.hold(0, false), 1);
        due.is("it is let go again", x.hold(0, false), 1);
        due.is("one other again", x.hold(5, true), 2);
    }

    private static void deadAtFirst(Due due) {
        FourRods x = new FourRods();
        due.is("told(2)", x.told(2), NONE);
        due.is("told(3)", x.told(3), NONE);
        due.is("then(0)", x.then(0), NONE);
        due.is("then(1)", x.then(1), NONE);
        due.is("then(2)", x.then(2), NONE);
        due.is("ends(0)", x.ends(0), Made.STATE);
    }

    private static void deadBall(Due due) {
        FourRods x = new FourRods();
        due.is("dead, though it is", x.ball(-1, 0), 1);
        due.is("with a man", x.ball(0, 0), 1);
        due.is("told(2)", x.told(2), 0);
        due.is("told(3)", x.told(3), 0);
        due.is("with another", x.ball(7, 0), 1);
        due.is("told(2)", x.told(2), 7);
        due.is("dead", x.ball(-1, 0), 1);
        due.is("told(2)", x.told(2), NONE);
        due.is("told(3)", x.told(3), NONE);
        due.is("rod -2", x.ball(-2, 0), UNKNOWN);
    }

    private static void noSuchMan(Due due) {
        FourRods x = Made.played(3, 4);
        due.is("no such man", x.ball(3, 5), UNKNOWN);
        due.is("no such man", x.ball(3, -1), UNKNOWN);
        due.is("no such rod", x.ball(8, 0), UNKNOWN);
        due.is("neither", x.ball(8, 9), UNKNOWN);
        due.is("it is where it was", 10 * x.told(2) + x.told(3), 34);
        for (int man : new int[] {0, -1, 5, Integer.MIN_VALUE, Integer.MAX_VALUE}) {
            x.ball(3, 4);
            due.is("a dead one's man " + man, x.ball(-1, man), 1);
            due.is("it is dead", x.told(3), NONE);
        }
    }

    private static void goals(Due due) {
        FourRods x = new FourRods();
        for (int side = 0; side < 2; side++) {
            due.is("at first", x.told(10 + side), 0);
            due.is("-1", x.goals(side, -1), OUTSIDE);
            due.is("11", x.goals(side, 11), OUTSIDE);
            due.is("as it was", x.told(10 + side), 0);
            due.is("10", x.goals(side, 10), 0);
            due.is("11", x.goals(side, 11), OUTSIDE);
            due.is("0", x.goals(side, 0), 10);
            due.is("7", x.goals(side, 7 + side), 0);
        }
        due.is("each its own", 10 * x.told(10) + x.told(11), 78);
        due.is("side -1", x.goals(-1, 0), UNKNOWN);
        due.is("side 2", x.goals(2, 0), UNKNOWN);
        due.is("each its own", 10 * x.told(10) + x.told(11), 78);
    }

    private static void firstTenth(Due due) {
        FourRods x = new FourRods();
        due.is("told(4)", x.told(4), 0);
        due.is("then(5)", x.then(5), 0);
        due.is("behind one tenth", Made.said(".").then(5), 1);
    }

    private static void padSize(Due due) {
        FourRods x = new FourRods();
        due.is("at first", x.told(0), 0);
        for (int i = 1; i <= 60; i++) due.is("sign " + i, x.say('.'), i);
        for (int i = 0; i < 2; i++) due.is("a sign more", x.say('.'), FULL);
        due.is("sixty", x.told(0), 60);
        due.is("all can be", x.done(), 60);
        due.is("the first again", x.say('.'), 1);
    }

    private static void codes(Due due) {
        FourRods x = new FourRods();
        for (int sign : new int[] {32, 127, 0, -33, 256 + 46, Integer.MIN_VALUE, Integer.MAX_VALUE}) {
            due.is("say(" + sign + ")", x.say(sign), OUTSIDE);
        }
        due.is("none was said", x.told(0), 0);
        due.is("say(33)", x.say(33), 1);
        due.is("say(126)", x.say(126), 2);
        for (int sign = 33; sign <= 90; sign++) due.is("say(" + sign + ")", x.say(sign), sign - 30);
    }

    private static void wiping(Due due) {
        FourRods x = Made.said(SIXTY);
        due.is("sixty", x.wipe(), 60);
        due.is("none", x.wipe(), 0);
        due.is("told(0)", x.told(0), 0);
        x.say('a');
        due.is("one", x.wipe(), 1);
        due.is("what was there is no matter", faultAfter(x, "a("), NONE);
    }

    private static void handling(Due due) {
        next(due, "", ".", "abcdefghpPs!");
        for (char rod = 'a'; rod <= 'h'; rod++) {
            next(due, "" + rod, "()", "<>");
            next(due, rod + "<", "123456789", "");
            next(due, rod + ">", "123456789", "");
            for (String act : new String[] {"(", ")", "<1", ">9"}) next(due, rod + act, ".", "abcdefghpPs!");
        }
        FourRods x = Made.said("a(a<9a>1");
        due.is("9 less, 1 more", x.behind(0, 0), 12);
    }

    private static void along(Due due) {
        next(due, "p", "01234", "");
        for (char digit = '0'; digit <= '4'; digit++) next(due, "p" + digit, ".", "abcdefghpPs!");
    }

    private static void over(Due due) {
        next(due, "P", "abcdefgh", "");
        next(due, "Pa", ".", "abcdefghpPs!");
        next(due, "Ph", ".", "abcdefghpPs!");
    }

    private static void shots(Due due) {
        next(due, "s", "", "<>");
        next(due, "s<", "0123456789", "");
        next(due, "s>", "0123456789", "");
        next(due, "s<0", ".", "abcdefghpPs!");
        next(due, "s>9", ".", "abcdefghpPs!");
    }

    private static void thrownIn(Due due) {
        next(due, "!", "", "abcdefgh");
        for (char rod = 'a'; rod <= 'h'; rod++) next(due, "!" + rod, "01234", "");
        next(due, "!a0", ".", "abcdefghpPs!");
        next(due, "!h4", ".", "abcdefghpPs!");
    }

    private static void tenth(Due due) {
        next(due, ".", ".", "abcdefghpPs!");
    }

    private static void firstFault(Due due) {
        due.is("at the first place", faultOf("~"), 0);
        due.is("at the second", faultOf("a~"), 1);
        due.is("at the third", faultOf("a>~"), 2);
        due.is("behind an act", faultOf("a>1~"), 3);
        due.is("the first of two", faultOf("a(~.~"), 2);
        due.is("the first of two, the second is one of more to come", faultOf("~a"), 0);
        due.is("at the last place", faultOf(".".repeat(59) + "0"), 59);
        due.is("at the last place of a shot", faultOf(".".repeat(57) + "s>a"), 59);
        due.is("an act that can not be is none", faultOf("a)"), NONE);
        due.is("a man that is not is none", faultOf("!a4p4"), NONE);
    }

    private static void moreMustCome(Due due) {
        for (String begun : new String[] {"a", "h", "a<", "h>", "p", "P", "s", "s<", "s>", "!", "!a", "!h"}) {
            due.is(begun, faultOf(begun), begun.length());
            due.is("...." + begun, faultOf("...." + begun), 4 + begun.length());
            due.is("a full pad with " + begun, faultOf(".".repeat(60 - begun.length()) + begun), 60);
        }
    }

    private static void emptyPad(Due due) {
        FourRods x = new FourRods();
        due.is("at first", x.fault(), NONE);
        Due.write(x, "a");
        due.is("not empty", x.fault(), 1);
        x.wipe();
        due.is("wiped", x.fault(), NONE);
        Due.write(x, ".");
        x.done();
        due.is("done", x.fault(), NONE);
    }

    private static int faultOf(String text) {
        return Made.said(text).fault();
    }

    private static int faultAfter(FourRods x, String text) {
        Due.write(x, text);
        return x.fault();
    }

    /** Of all signs only these can stand behind the text: some of them end an act, after some more must come. */
    private static void next(Due due, String text, String ending, String going) {
        FourRods x = new FourRods();
        for (int sign = 33; sign <= 126; sign++) {
            if (sign % 20 == 0) x = new FourRods();
            Due.write(x, text);
            x.say(sign);
            int want = ending.indexOf(sign) >= 0 ? NONE : going.indexOf(sign) >= 0 ? text.length() + 1 : text.length();
            due.is(text + (char) sign + ": fault()", x.fault(), want);
        }
    }
}
