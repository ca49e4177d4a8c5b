/** Each promise by hand: ordinary numbers, the edges that the document names, wrong ones. */
public final class PromisesTest {
    private static final int NONE = -6, UNKNOWN = -1, OUTSIDE = -2, STATE = -3, FULL = -4, NO = -5;
    private static final long LOST = -1000000000000000000L;
    private static final int[] MIDDLES = {20, 12, 8, 4, 4, 8, 12, 20};
    private static final int[] LASTS = {40, 24, 16, 8, 8, 16, 24, 40};
    private static final int[] MEN = {1, 2, 3, 5, 5, 3, 2, 1};
    private static final int[] GAPS = {0, 16, 12, 8, 8, 12, 16, 0};

    private static final Due due = new Due();

    public static void main(String[] args) {
        newObject();
        slides();
        holding();
        balls();
        goals();
        signs();
        faults();
        reasons();
        passes();
        tenths();
        doing();
        behind();
        then();
        ends();
        goesIn();
        paths();
        standing();
        mixing();
        hands();
        trulySeven();
        races();
        sights();
        asking();
        years();
        images();
        told();
        due.finish();
    }

    /** Side 0 has the ball with the middle one of its three, and holds them. */
    private static FourRods shooting() {
        FourRods x = new FourRods();
        x.hold(5, true);
        x.ball(5, 1);
        return x;
    }

    private static void newObject() {
        FourRods x = new FourRods();
        for (int what = 0; what < 6; what++) {
            due.is("new: told(" + what + ")", x.told(what), what == 2 || what == 3 ? NONE : 0);
        }
        due.is("new: told(10)", x.told(10), 0);
        due.is("new: told(11)", x.told(11), 0);
        for (int rod = 0; rod < 8; rod++) due.is("new: told(2" + rod + ")", x.told(20 + rod), MIDDLES[rod]);
        due.is("new: restore(0)", x.restore(0), STATE);
        due.is("new: restore(1)", x.restore(1), STATE);
    }

    private static void slides() {
        FourRods x = new FourRods();
        for (int rod = 0; rod < 8; rod++) {
            due.is("slide to 0", x.slide(rod, 0), MIDDLES[rod]);
            due.is("slide below", x.slide(rod, -1), OUTSIDE);
            due.is("slide too far", x.slide(rod, LASTS[rod] + 1), OUTSIDE);
            due.is("slide to the last", x.slide(rod, LASTS[rod]), 0);
            due.is("told", x.told(20 + rod), LASTS[rod]);
            due.is("the last man", x.told(100 + 10 * rod + MEN[rod] - 1), 40);
        }
        due.is("slide(-1, 50)", x.slide(-1, 50), UNKNOWN);
        due.is("slide(8, 0)", x.slide(8, 0), UNKNOWN);
        x.ball(5, 1);
        x.slide(5, 3);
        Due.write(x, "");
        due.is("the ball goes with its man", x.then(2), 15);
    }

    private static void holding() {
        FourRods x = new FourRods();
        int[][] sides = {{0, 1, 3, 5}, {7, 6, 4, 2}};
        for (int[] rods : sides) {
            due.is("hold none", x.hold(rods[0], false), 0);
            due.is("hold one", x.hold(rods[0], true), 1);
            due.is("hold it again", x.hold(rods[0], true), 1);
            due.is("hold two", x.hold(rods[3], true), 2);
            due.is("hold a third", x.hold(rods[1], true), FULL);
            due.is("hold a third", x.hold(rods[2], true), FULL);
            due.is("hold one of both again", x.hold(rods[3], true), 2);
            due.is("let go one that is not held", x.hold(rods[2], false), 2);
            due.is("let go", x.hold(rods[0], false), 1);
            due.is("hold another", x.hold(rods[2], true), 2);
        }
        due.is("held rods", x.told(1), 8 + 32 + 16 + 4);
        due.is("hold(-1, true)", x.hold(-1, true), UNKNOWN);
        due.is("hold(8, false)", x.hold(8, false), UNKNOWN);
    }

    private static void balls() {
        FourRods x = new FourRods();
        for (int rod = 0; rod < 8; rod++) {
            for (int man = 0; man < MEN[rod]; man++) {
                due.is("ball", x.ball(rod, man), 1);
                due.is("its rod", x.told(2), rod);
                due.is("its man", x.told(3), man);
            }
            due.is("ball to no man", x.ball(rod, MEN[rod]), UNKNOWN);
            due.is("ball to no man", x.ball(rod, -1), UNKNOWN);
            due.is("its rod as it was", x.told(2), rod);
            due.is("its man as it was", x.told(3), MEN[rod] - 1);
        }
        due.is("ball(8, 0)", x.ball(8, 0), UNKNOWN);
        due.is("ball(-2, 0)", x.ball(-2, 0), UNKNOWN);
        due.is("ball(-1, -7)", x.ball(-1, -7), 1);
        due.is("dead", x.told(2), NONE);
        due.is("dead", x.told(3), NONE);
    }

    private static void goals() {
        FourRods x = new FourRods();
        due.is("goals(0, 10)", x.goals(0, 10), 0);
        due.is("goals(1, 3)", x.goals(1, 3), 0);
        due.is("goals(0, 11)", x.goals(0, 11), OUTSIDE);
        due.is("goals(0, -1)", x.goals(0, -1), OUTSIDE);
        due.is("goals(2, 11)", x.goals(2, 11), UNKNOWN);
        due.is("goals(-1, 0)", x.goals(-1, 0), UNKNOWN);
        due.is("goals(0, 0)", x.goals(0, 0), 10);
        due.is("goals(1, 10)", x.goals(1, 10), 3);
        due.is("told(11)", x.told(11), 10);
    }

    private static void signs() {
        FourRods x = new FourRods();
        due.is("say(32)", x.say(32), OUTSIDE);
        due.is("say(127)", x.say(127), OUTSIDE);
        due.is("say(33)", x.say(33), 1);
        due.is("say(126)", x.say(126), 2);
        for (int i = 3; i <= 60; i++) due.is("say(46)", x.say(46), i);
        due.is("say(46) of 61", x.say(46), FULL);
        due.is("say(32) of 61", x.say(32), OUTSIDE);
        due.is("told(0)", x.told(0), 60);
        due.is("fault()", x.fault(), 1);
        due.is("wipe()", x.wipe(), 60);
        due.is("wipe() again", x.wipe(), 0);
        due.is("told(0)", x.told(0), 0);
        due.is("say(46)", x.say(46), 1);
        due.is("fault()", x.fault(), NONE);
    }

    private static void faults() {
        FourRods x = new FourRods();
        String[] right = {"", "a(", "h)", "a<1", "h>9", "p0", "p4", "Pa", "Ph", "s<0", "s>9", "s<9", "s>0", "!a0", "!h4", ".",
            "a(b).p1Pcs<2!d3..", "............................................................"};
        for (String text : right) {
            Due.write(x, text);
            due.is("fault of " + text, x.fault(), NONE);
        }
        String[] wrong = {"i", "`", "0", "(", "a", "a0", "a(a", "a<", "a<0", "a>:", "a(1", "p", "p5", "p/", "pa", "P", "Pi", "P`", "P0",
            "s", "s1", "s(", "s<", "s<a", "s>/", "s>:", "!", "!0", "!i0", "!a", "!a5", "!ab", ".a(.x", "p1P", "A(", "S<1", "~"};
        int[] places = {0, 0, 0, 0, 1, 1, 3, 2, 2, 2, 2, 1, 1, 1, 1, 1, 1, 1, 1,
            1, 1, 1, 2, 2, 2, 2, 1, 1, 1, 2, 2, 2, 4, 3, 0, 0, 0};
        for (int i = 0; i < wrong.length; i++) {
            Due.write(x, wrong[i]);
            due.is("fault of " + wrong[i], x.fault(), places[i]);
            for (int what = 0; what < 2; what++) due.is(wrong[i] + ": judge", x.judge(what), NO);
            due.is(wrong[i] + ": done", x.done(), NO);
            due.is(wrong[i] + ": behind", x.behind(0, 0), NO);
            due.is(wrong[i] + ": then", x.then(0), NO);
            due.is(wrong[i] + ": judge(2)", x.judge(2), OUTSIDE);
            due.is(wrong[i] + ": judge(-1)", x.judge(-1), OUTSIDE);
        }
        // A fault behind an act that can not be is a fault all the same.
        Due.write(x, "a)a");
        due.is("fault of a)a", x.fault(), 3);
        due.is("judge of a)a", x.judge(0), NO);
    }

    private static void reasons() {
        FourRods x = new FourRods();
        due.fine(x, "");
        due.judged(x, "a)", 0, 3);
        due.judged(x, "a(a(", 1, 3);
        due.judged(x, "a(b(a(", 2, 3);
        due.judged(x, "a(b(d(", 2, 4);
        due.judged(x, "h(g(e(", 2, 4);
        due.judged(x, "h(c(a(f(d(", 4, 4);
        due.fine(x, "h(c(a(f(");
        due.judged(x, "a<1", 0, 3);
        due.judged(x, "a>1", 0, 3);
        due.fine(x, "d(d<4");
        due.judged(x, "d(d<5", 1, 5);
        due.fine(x, "d(d>4");
        due.judged(x, "d(d>5", 1, 5);
        due.judged(x, "b(b>9b>4", 2, 5);
        due.fine(x, "b(b>9b>3");
        due.judged(x, "p0", 0, 2);
        due.judged(x, "Pa", 0, 2);
        due.judged(x, "s<1", 0, 2);
        due.judged(x, "!a1", 0, 6);
        due.judged(x, "!b2", 0, 6);
        due.judged(x, "!c3", 0, 6);
        due.fine(x, "!e4");
        due.judged(x, "!a0!a0", 1, 2);
        due.judged(x, "!a0!a1", 1, 2);
        due.judged(x, "!d2p1", 1, 3);
        due.judged(x, "!d2Pb", 1, 3);
        due.judged(x, "!d2s>1", 1, 3);
        due.judged(x, "!d2p4", 1, 3);
        due.fine(x, "!d2d(p1");
        for (int side = 0; side < 2; side++) {
            x.goals(side, 10);
            for (String act : new String[] {"a(", "a)", "a<1", "p1", "Pb", "s<1", "!a0", "."}) due.judged(x, act, 0, 1);
            x.goals(side, 0);
        }
        due.fine(x, ".");
    }

    private static void passes() {
        FourRods x = new FourRods();
        x.hold(3, true);
        x.ball(3, 1);
        for (int man = 0; man < 5; man++) {
            if (man == 0 || man == 2) due.fine(x, "p" + man);
            else due.judged(x, "p" + man, 0, 6);
        }
        x.ball(3, 4);
        due.judged(x, "p4", 0, 6);
        due.fine(x, "p3");
        // d's second man stands at 12, f's least at 8, e's at 12 too: it is e's.
        x.ball(3, 1);
        due.judged(x, "Pd", 0, 6);
        due.judged(x, "Pe", 0, 6);
        due.judged(x, "Pf", 0, 6);
        x.slide(5, 9);
        due.fine(x, "Pf");
        due.is("e gets it", x.then(0), 4);
        due.is("its second man", x.then(1), 1);
        due.is("where", x.then(2), 12);
        x.slide(4, 2);
        due.is("f gets it", x.then(0), 5);
        due.is("its first man", x.then(1), 0);
        due.is("where", x.then(2), 9);
        x.slide(4, 3);
        due.is("e gets it", x.then(0), 4);
        x.slide(4, 6);
        due.is("f gets it", x.then(0), 5);
        // Back from d at 12 to b at 12, c (2) between at 8, 20, 32.
        due.fine(x, "Pb");
        due.is("b gets it", x.then(0), 1);
        due.is("where", x.then(2), 12);
        x.slide(2, 11);
        due.is("c gets it", x.then(0), 2);
        due.is("where", x.then(2), 11);
        // From side 1, the other way along: e at 14 (slide 6) to h at 14, f at 9, 21, 33, g at 12, 28 its own.
        FourRods y = new FourRods();
        y.hold(4, true);
        y.ball(4, 1);
        y.slide(4, 6);
        y.slide(7, 17);
        due.fine(y, "Ph");
        due.is("h gets it", y.then(0), 7);
        y.slide(5, 1);
        due.is("f gets it", y.then(0), 5);
        due.is("its second man", y.then(1), 1);
        y.slide(7, 18);
        due.judged(y, "Ph", 0, 6);
    }

    private static void tenths() {
        FourRods x = new FourRods();
        int tenth = 0;
        // Past 512 calls: the document promises no more there, but nothing earlier comes to tenth 999.
        for (int i = 0; i < 16; i++) {
            Due.write(x, "............................................................");
            tenth += x.done();
        }
        due.is("acts", tenth, 960);
        Due.write(x, ".......................................");
        due.is("the last tenths", x.done(), 39);
        due.is("told(4)", x.told(4), 999);
        due.judged(x, ".", 0, 7);
        due.fine(x, "a(");
    }

    private static void doing() {
        FourRods x = new FourRods();
        due.is("done() of none", x.done(), 0);
        Due.write(x, "f(!f1f>1.p0p1s>0..h(");
        due.is("judge", x.judge(0), NONE);
        due.is("then(6)", x.then(6), NONE);
        due.is("nothing is done yet", x.told(1), 0);
        due.is("done()", x.done(), 10);
        due.is("the pad is empty", x.told(0), 0);
        due.is("held", x.told(1), 32 + 128);
        due.is("slide", x.told(25), 9);
        due.is("tenth", x.told(4), 3);
        due.is("the keeper has it: 21 is beside g's 12 and 28, h covers it", x.told(2), 7);
        due.is("man", x.told(3), 0);
        Due.write(x, "h)h)");
        due.is("done() of what can not be", x.done(), NO);
        due.is("the pad stands", x.told(0), 4);
        due.is("held", x.told(1), 32 + 128);
        due.is("wipe()", x.wipe(), 4);
    }

    private static void behind() {
        FourRods x = new FourRods();
        Due.write(x, "b(b<3g(g>4b)");
        due.is("b's slide", x.behind(1, 0), 9);
        due.is("b held", x.behind(1, 1), 0);
        due.is("g's slide", x.behind(6, 0), 16);
        due.is("g held", x.behind(6, 1), 1);
        due.is("h's slide", x.behind(7, 0), 20);
        due.is("as it is", x.told(21), 12);
        due.is("behind(-1, 2)", x.behind(-1, 2), UNKNOWN);
        due.is("behind(8, 0)", x.behind(8, 0), UNKNOWN);
        due.is("behind(0, 2)", x.behind(0, 2), OUTSIDE);
        due.is("behind(0, -1)", x.behind(0, -1), OUTSIDE);
        Due.write(x, "b(b(");
        due.is("behind what can not be", x.behind(1, 0), NO);
        due.is("behind(8, 0)", x.behind(8, 0), UNKNOWN);
        due.is("behind(1, 2)", x.behind(1, 2), OUTSIDE);
    }

    private static void then() {
        FourRods x = shooting();
        x.goals(0, 8);
        x.goals(1, 4);
        Due.write(x, ".s>1.!f1s<1");
        int[] wanted = {NONE, NONE, NONE, 10, 4, 2, 1};
        for (int what = 0; what < 7; what++) due.is("two goals: then(" + what + ")", x.then(what), wanted[what]);
        due.is("judge", x.judge(0), NONE);
        due.judged(x, ".s>1.!f1s<1a(", 5, 1);
        due.is("then(3)", x.then(3), NO);
        due.is("then(7)", x.then(7), OUTSIDE);
        due.is("then(-1)", x.then(-1), OUTSIDE);
        // Side 1 scores: from c at 8 by 9 less each.
        FourRods y = new FourRods();
        y.hold(2, true);
        y.ball(2, 0);
        Due.write(y, "s<9");
        int[] scored = {NONE, NONE, NONE, 0, 1, 0, 0};
        for (int what = 0; what < 7; what++) due.is("side 1: then(" + what + ")", y.then(what), scored[what]);
        Due.write(y, "s>1");
        int[] kept = {0, 0, 20, 0, 0, 0, NONE};
        for (int what = 0; what < 7; what++) due.is("no goal: then(" + what + ")", y.then(what), kept[what]);
    }

    private static void ends() {
        FourRods x = new FourRods();
        due.is("ends(10) of a dead ball", x.ends(10), OUTSIDE);
        due.is("ends(-10)", x.ends(-10), OUTSIDE);
        due.is("ends(9) of a dead ball", x.ends(9), STATE);
        due.is("goesIn() of a dead ball", x.goesIn(), STATE);
        // From a at 20 by 5 more: 25, 30 (c at 8, 20, 32), 35, 40 (e at 4 to 36), 35, 30 (g 28), 25 (h 20), 20 in.
        x.ball(0, 0);
        due.is("by 5", x.ends(5), 8);
        x.slide(7, 24);
        due.is("by 5, the keeper beside", x.ends(5), 7);
        x.slide(7, 23);
        due.is("by 5, the keeper farther", x.ends(5), 8);
        x.slide(7, 26);
        due.is("by 5, the keeper at the other side", x.ends(5), 7);
        x.slide(6, 13);
        due.is("by 5, a back", x.ends(5), 6);
        x.slide(2, 9);
        due.is("by 5, c stands at 33", x.ends(5), 6);
        x.slide(2, 7);
        due.is("by 5, c stands at 31", x.ends(5), 2);
        // The goal is from 15 to 25: from f at 20 by 0 with keeper and backs aside.
        FourRods y = shooting();
        y.slide(7, 0);
        y.slide(6, 4);
        int[] from = {15, 25, 14, 26, 16, 24};
        for (int place : from) {
            y.slide(5, place - 12);
            due.is("straight from " + place, y.ends(0), place < 15 || place > 25 ? 7 : 8);
        }
        y.slide(6, 1);
        y.slide(5, 4);
        due.is("16 is covered by a back at 17", y.ends(0), 6);
        y.slide(6, 24);
        due.is("16 is not covered", y.ends(0), 8);
    }

    private static void goesIn() {
        FourRods x = shooting();
        due.is("IN by 1 to either side", x.goesIn(), (1 << 10) + (1 << 8));
        for (int d = -9; d <= 9; d++) {
            due.is("bit of " + d, x.goesIn() >> (d + 9) & 1, x.ends(d) == 8 ? 1 : 0);
        }
        x.ball(2, 0);
        due.is("from c: by 9 and 8 less", x.goesIn(), 3);
        x.goals(0, 10);
        due.is("goals do not matter", x.goesIn(), 3);
    }

    private static void paths() {
        FourRods x = new FourRods();
        due.is("path(0, 1, 0)", x.path(0, 1, 0), UNKNOWN);
        due.is("path(-1, 0, 3)", x.path(-1, 0, 3), UNKNOWN);
        due.is("path(3, -1, 0)", x.path(3, -1, 0), UNKNOWN);
        due.is("path(0, 0, -1)", x.path(0, 0, -1), OUTSIDE);
        due.is("path(0, 0, 2)", x.path(0, 0, 2), OUTSIDE);
        due.is("path of a dead ball", x.path(0, 0, 1), STATE);
        x.ball(5, 0);
        due.is("he has it", x.path(5, 0, 0), 0);
        due.is("to whom", x.path(5, 0, 1), NONE);
        due.is("two along", x.path(5, 2, 0), 2);
        due.is("to the next", x.path(5, 2, 1), 51);
        for (int what = 0; what < 2; what++) {
            due.is("the other side's", x.path(7, 0, what), NONE);
            due.is("none comes to a: 20 is covered by e and c", x.path(0, 0, what), NONE);
        }
        // e's men aside at 0, 8, 16, 24, 32: f at 20 over to d at 20, then to a, c in between at 20 or not.
        x.slide(4, 0);
        due.is("to d's third", x.path(3, 2, 0), 2);
        due.is("by f's second", x.path(3, 2, 1), 51);
        due.is("to a", x.path(0, 0, 0), NONE);
        x.slide(2, 10);
        due.is("to a, by f's second", x.path(0, 0, 0), 2);
        due.is("to a, by f's second", x.path(0, 0, 1), 51);
        due.is("d's first, over d's third or along", x.path(3, 0, 0), 4);
        FourRods y = new FourRods();
        y.ball(3, 0);
        y.slide(5, 4);
        y.slide(4, 0);
        due.is("d at 4 over to f at 4, e at 0, 8", y.path(5, 0, 0), 1);
        due.is("along f", y.path(5, 1, 0), 2);
        due.is("by f's first or d's second: f's second at 16, d's at 12 is too far", y.path(5, 1, 1), 50);
        y.slide(5, 6);
        due.is("d's first at 4, f's at 6, 18, 30; d's third at 20", y.path(5, 1, 0), 2);
        due.is("by f's first", y.path(5, 1, 1), 50);
        due.is("f's third, d's fourth at 28 to 30: three along and over, or two along f", y.path(5, 2, 0), 3);
        due.is("the least first", y.path(5, 2, 1), 50);
        y.slide(0, 4);
        y.slide(1, 3);
        y.slide(2, 16);
        due.is("d to a straight back", y.path(0, 0, 0), 1);
        due.is("d to b's second at 19: over to b's first at 3 and along, or three", y.path(1, 1, 0), 2);
        due.is("by b's first", y.path(1, 1, 1), 10);
        due.is("one pass", y.path(0, 0, 1), 0);
    }

    private static void standing() {
        FourRods x = new FourRods();
        due.is("stand(2)", x.stand(2), OUTSIDE);
        due.is("stand(-1)", x.stand(-1), OUTSIDE);
        due.is("stand(0) of a dead ball", x.stand(0), STATE);
        for (int rod = 0; rod < 8; rod++) {
            x.ball(rod, 0);
            int slides = x.stand(1);
            int least = x.stand(0);
            FourRods y = new FourRods();
            y.ball(rod, 0);
            boolean first = rod == 0 || rod == 1 || rod == 3 || rod == 5;
            y.slide(first ? 7 : 0, slides / 100);
            y.slide(first ? 6 : 1, slides % 100);
            due.is("so many are in then", Integer.bitCount(y.goesIn()), least);
            due.is("nothing is slid in fact", x.told(27), 20);
            due.is("nothing is slid in fact", x.told(21), 12);
        }
        x.ball(7, 0);
        x.slide(0, 40);
        x.slide(1, 0);
        int slides = x.stand(1);
        x.slide(0, 3);
        x.slide(1, 24);
        due.is("where both stand now is no matter", x.stand(1), slides);
        x.hold(7, true);
        x.goals(0, 10);
        due.is("hands and goals neither", x.stand(1), slides);
    }

    private static void fraction(String call, long upper, long lower, long wantUpper, long wantLower) {
        due.is(call + ", upper", upper, wantUpper);
        due.is(call + ", lower", lower, wantLower);
    }

    private static void mixed(int a, int b, int c, int d, long... want) {
        FourRods x = new FourRods();
        String call = "mix(" + a + ", " + b + ", " + c + ", " + d + ")";
        fraction(call + " score", x.mix(a, b, c, d, 0, 0), x.mix(a, b, c, d, 0, 1), want[0], want[1]);
        fraction(call + " first", x.mix(a, b, c, d, 1, 0), x.mix(a, b, c, d, 1, 1), want[2], want[3]);
    }

    private static void mixing() {
        mixed(2, 8, 8, 2, 1, 2, 1, 2);
        mixed(1, 10, 7, 2, 17, 35, 5, 14);
        mixed(0, 0, 0, 0, 0, 1, 1, 1);
        mixed(6, 6, 6, 6, 3, 5, 1, 1);
        mixed(4, 9, 4, 9, 2, 5, 1, 1);
        mixed(4, 9, 5, 10, 1, 2, 0, 1);
        mixed(10, 10, 0, 0, 1, 1, 1, 1);
        mixed(0, 10, 10, 10, 1, 1, 0, 1);
        mixed(5, 10, 5, 0, 1, 2, 1, 1);
        mixed(5, 0, 5, 10, 1, 2, 0, 1);
        FourRods x = new FourRods();
        for (int i = 0; i < 6; i++) {
            for (int v = -1; v <= 11; v += i < 4 ? 12 : 3) {
                int[] n = {5, 5, 5, 5, 0, 0};
                n[i] = v;
                due.is("mix with " + v + " at " + i, x.mix(n[0], n[1], n[2], n[3], n[4], n[5]), LOST + OUTSIDE);
            }
        }
    }

    private static void hands() {
        FourRods x = new FourRods();
        due.is("hands(1, 1)", x.hands(1, 1), 1);
        due.is("0 0 1", x.hands(1, 3), 2);
        due.is("0 1 2 0 1", x.hands(1201, 5), 4);
        due.is("0 1 2 0 3 0", x.hands(12030, 6), 4);
        due.is("0 1 2 3 2 1 0", x.hands(123210, 7), 6);
        due.is("1 0 2 0 1 2 0 2 1", x.hands(102012021, 9), 6);
        due.is("hands(3, 1)", x.hands(3, 1), 1);
        due.is("hands(4, 1)", x.hands(4, 1), OUTSIDE);
        due.is("hands(10, 1)", x.hands(10, 1), OUTSIDE);
        due.is("hands(1000000000, 9)", x.hands(1000000000, 9), OUTSIDE);
        due.is("hands(333333333, 8)", x.hands(333333333, 8), OUTSIDE);
        due.is("hands(40, 9)", x.hands(40, 9), OUTSIDE);
        due.is("hands(0, 0)", x.hands(0, 0), OUTSIDE);
        due.is("hands(0, -1)", x.hands(0, -1), OUTSIDE);
        due.is("hands(0, 10)", x.hands(0, 10), OUTSIDE);
        due.is("hands(-1, 9)", x.hands(-1, 9), OUTSIDE);
    }

    private static void trulySeven() {
        FourRods x = new FourRods();
        fraction("7 or 5, 7 of 10", x.truly(7, 5, 10, 7, 0), x.truly(7, 5, 10, 7, 1), 22235661L, 32001286L);
        fraction("7 or 3, 1 of 2", x.truly(7, 3, 2, 1, 0), x.truly(7, 3, 2, 1, 1), 1, 2);
        fraction("0 or 0, 0 of 16", x.truly(0, 0, 16, 0, 0), x.truly(0, 0, 16, 0, 1), 1, 2);
        fraction("10 or 0, 16 of 16", x.truly(10, 0, 16, 16, 0), x.truly(10, 0, 16, 16, 1), 1, 1);
        fraction("0 or 10, 16 of 16", x.truly(0, 10, 16, 16, 0), x.truly(0, 10, 16, 16, 1), 0, 1);
        fraction("10 or 10, 16 of 16", x.truly(10, 10, 16, 16, 0), x.truly(10, 10, 16, 16, 1), 1, 2);
        fraction("neither", x.truly(10, 10, 16, 15, 0), x.truly(10, 10, 16, 15, 1), 0, 1);
        int[][] wrong = {{-1, 5, 5, 5, 0}, {11, 5, 5, 5, 0}, {5, -1, 5, 5, 0}, {5, 11, 5, 5, 0}, {5, 5, -1, 0, 0},
            {5, 5, 17, 5, 0}, {5, 5, 5, -1, 0}, {5, 5, 5, 6, 0}, {5, 5, 5, 5, -1}, {5, 5, 5, 5, 2}};
        for (int[] n : wrong) due.is("truly, wrong", x.truly(n[0], n[1], n[2], n[3], n[4]), LOST + OUTSIDE);
    }

    private static void races() {
        FourRods x = new FourRods();
        fraction("9 to 9, seven in ten", x.race(9, 9, 7, 0), x.race(9, 9, 7, 1), 7, 10);
        fraction("9 to 8, seven in ten", x.race(9, 8, 7, 0), x.race(9, 8, 7, 1), 91, 100);
        fraction("8 to 9, seven in ten", x.race(8, 9, 7, 0), x.race(8, 9, 7, 1), 49, 100);
        fraction("8 to 8, seven in ten", x.race(8, 8, 7, 0), x.race(8, 8, 7, 1), 98, 125);
        fraction("never", x.race(9, 0, 0, 0), x.race(9, 0, 0, 1), 0, 1);
        fraction("ever", x.race(0, 9, 10, 0), x.race(0, 9, 10, 1), 1, 1);
        due.is("race(0, 1, 1, 1)", x.race(0, 1, 1, 1), 100000000000000000L);
        int[][] wrong = {{-1, 5, 5, 0}, {10, 5, 5, 0}, {5, -1, 5, 0}, {5, 10, 5, 0}, {5, 5, -1, 0}, {5, 5, 11, 0},
            {5, 5, 5, -1}, {5, 5, 5, 2}, {0, 0, 11, 0}, {0, 0, 5, 2}};
        for (int[] n : wrong) due.is("race, wrong", x.race(n[0], n[1], n[2], n[3]), LOST + OUTSIDE);
        for (int part = 0; part < 2; part++) due.is("race from nothing", x.race(0, 0, 5, part), LOST + STATE);
    }

    private static void sights() {
        FourRods x = new FourRods();
        due.is("seen(-1, true)", x.seen(-1, true), OUTSIDE);
        due.is("seen(61, true)", x.seen(61, true), OUTSIDE);
        due.is("seen(0, false)", x.seen(0, false), 1);
        due.is("seen(60, false)", x.seen(60, false), 2);
        due.is("rows that begin with 0 (60 is left over by none)", x.fits(-1), 15);
        due.is("the first", x.fits(0), 16);
        due.is("the second", x.fits(1), 32);
        due.is("the last", x.fits(14), 78);
        due.is("no more", x.fits(15), NONE);
        due.is("fits(-2)", x.fits(-2), NONE);
        due.is("seen(0, true)", x.seen(0, true), 3);
        due.is("none fits", x.fits(-1), 0);
        due.is("none fits", x.fits(0), NONE);
        due.is("ask(0)", x.ask(0), NONE);
        due.is("ask(1)", x.ask(1), NONE);
        due.is("forget()", x.forget(), 3);
        due.is("forget() again", x.forget(), 0);
        for (int i = 1; i <= 8; i++) due.is("seen", x.seen(7, true), i);
        due.is("seen(7, true) of nine", x.seen(7, true), FULL);
        due.is("seen(61, true) of nine", x.seen(61, true), OUTSIDE);
        due.is("told(5)", x.told(5), 8);
        due.is("shot 7 is of number 0, 1, 1, 3", x.fits(-1), 1 + 2 + 4 + 8);
        due.is("the first", x.fits(0), 17);
        due.is("the second: 01", x.fits(1), 34);
        due.is("wipe() leaves them", x.wipe() + x.told(5), 8);
    }

    private static void asking() {
        FourRods x = new FourRods();
        due.is("ask(-1)", x.ask(-1), OUTSIDE);
        due.is("ask(2)", x.ask(2), OUTSIDE);
        due.is("the least of all as good", x.ask(0), 0);
        due.is("half are left", x.ask(1), 15);
        // 0 1 at 0, 1, then 0 at 2: 01, 010, 0100, 0101.
        x.seen(0, false);
        x.seen(1, true);
        x.seen(2, false);
        due.is("rows", x.fits(-1), 4);
        due.is("01 as 32 + 2", x.fits(0), 34);
        due.is("010", x.fits(1), 50);
        due.is("0100", x.fits(2), 66);
        due.is("0101", x.fits(3), 74);
        due.is("shot 3: 1, 0, 0, 1", x.ask(0), 3);
        due.is("two are left", x.ask(1), 2);
        x.seen(3, true);
        due.is("01 and 0101 are as one", x.ask(0), 0);
        due.is("both are left", x.ask(1), 2);
        x.forget();
        for (int i = 0; i < 4; i++) x.seen(i, i == 3);
        due.is("0001 alone", x.fits(0), 72);
        due.is("one row", x.fits(-1), 1);
        due.is("any shot, the least", x.ask(0), 0);
        due.is("one is left", x.ask(1), 1);
    }

    private static void years() {
        FourRods x = new FourRods();
        int[][] wrong = {{-1, 1, 0}, {10000, 1, 0}, {0, 0, 0}, {0, 100, 0}, {0, 1, -1}, {0, 1, 3}};
        for (int[] n : wrong) due.is("year, wrong", x.year(n[0], n[1], n[2]), OUTSIDE);
        // Seed 0: 74 is rod 2, act 1: it is not held. Then 5624: rod 0, act 7, z 87: a has no man 2.
        due.is("year(0, 1, 2)", x.year(0, 1, 2), NONE);
        due.is("year(0, 2, 2)", x.year(0, 2, 2), NONE);
        x.ball(3, 2);
        due.is("the ball is not dead: a tenth", x.year(0, 2, 1), 1);
        due.is("the first is none", x.year(0, 1, 1), 0);
        due.is("it is where it was", x.year(0, 2, 2), 3);
        x.goals(0, 4);
        x.goals(1, 5);
        due.is("goals of both", x.year(0, 2, 0), 9);
        x.goals(1, 10);
        due.is("no act can be", x.year(0, 99, 1), 0);
        due.is("nothing is done in fact", x.told(4), 0);
        due.is("nothing is done in fact", x.told(1), 0);
        due.is("nothing is done in fact", x.told(2), 3);
    }

    private static void images() {
        FourRods x = new FourRods();
        due.is("image(-1)", x.image(-1), OUTSIDE);
        due.is("image(2)", x.image(2), OUTSIDE);
        due.is("restore(-1)", x.restore(-1), OUTSIDE);
        due.is("restore(2)", x.restore(2), OUTSIDE);
        due.is("restore(1)", x.restore(1), STATE);
        due.is("image(1)", x.image(1), 1);
        Due.write(x, "f(!f1f<2.");
        x.done();
        x.goals(0, 3);
        x.goals(1, 4);
        x.seen(5, true);
        x.seen(6, false);
        due.is("restore(0)", x.restore(0), STATE);
        due.is("image(0)", x.image(0), 1);
        int there = x.fits(-1);
        int[] rows = new int[there];
        for (int i = 0; i < there; i++) rows[i] = x.fits(i);
        Due.write(x, "a(.");
        due.is("restore(1)", x.restore(1), 1);
        int[] fresh = {3, 0, NONE, NONE, 0, 0};
        for (int what = 0; what < 6; what++) due.is("as new: told(" + what + ")", x.told(what), fresh[what]);
        due.is("goals", x.told(10) + x.told(11), 0);
        due.is("slide", x.told(25), 8);
        due.is("all rows fit", x.fits(-1), 30);
        x.seen(8, false);
        x.seen(3, true);
        due.is("restore(0)", x.restore(0), 1);
        int[] kept = {3, 32, 5, 1, 1, 2};
        for (int what = 0; what < 6; what++) due.is("as kept: told(" + what + ")", x.told(what), kept[what]);
        due.is("goals", x.told(10), 3);
        due.is("goals", x.told(11), 4);
        due.is("slide", x.told(25), 6);
        due.is("the rows fit as they did", x.fits(-1), there);
        for (int i = 0; i < there; i++) due.is("the same row", x.fits(i), rows[i]);
        x.slide(5, 0);
        due.is("restore(0) again", x.restore(0), 1);
        due.is("what is done later does not touch it", x.told(25), 6);
        due.is("image(0) anew", x.image(0) + x.slide(5, 1), 7);
        due.is("image(0) anew", x.image(0) + x.slide(5, 2), 2);
        due.is("restore(0)", x.restore(0), 1);
        due.is("the later one", x.told(25), 1);
    }

    private static void told() {
        FourRods x = new FourRods();
        int[] outside = {-1, -6, 6, 9, 12, 19, 28, 99, 101, 112, 123, 135, 145, 153, 162, 171, 180, 109, 119, 1000};
        for (int what : outside) due.is("told(" + what + ")", x.told(what), OUTSIDE);
        for (int rod = 0; rod < 8; rod++) {
            x.slide(rod, rod);
            for (int man = 0; man < MEN[rod]; man++) {
                due.is("where", x.told(100 + 10 * rod + man), rod + man * GAPS[rod]);
            }
        }
    }
}
