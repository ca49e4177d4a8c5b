/** The edges of what acts do, of the reasons why one can not be, and of part 2: judged, done, behind, ends, in. */
public final class ActEdgesTest {
    private static final int NONE = Made.NONE, OUTSIDE = Made.OUTSIDE, STATE = Made.STATE, NO = Made.NO;
    private static final String SIXTY = ".".repeat(60);
    private static final String[] ALL_KINDS = {"a(", "a)", "a<1", "a>1", "p0", "Pb", "s<0", "s>9", "!a0", "."};

    public static void main(String[] args) throws Exception {
        Sentences document = new Sentences();
        document.says("< or > and a digit 1 to 9 (its SLIDE is so much less, more)", ActEdgesTest::slidBy);
        document.says("to its MAN who stands nearest to where the BALL is, the least of several", ActEdgesTest::nearest);
        document.says("A pass over goes straight across", ActEdgesTest::straightAcross);
        document.says("the first ROD of the other SIDE between that COVERS where it is gets the BALL", ActEdgesTest::firstBetween);
        document.says("between that COVERS where it is", ActEdgesTest::onlyBetween);
        document.says("gets the BALL (the least MAN who COVERS it).", ActEdgesTest::passCovered);
        document.says("the BALL is so much more to the one side, < less, > more", ActEdgesTest::shotWay);
        document.says("at each ROD farther on, to the other SIDE's keeper", ActEdgesTest::eachRod);
        document.says("off 0 and 40 it bounces: 41 is 39", ActEdgesTest::bounce);
        document.says("off 0 and 40 it bounces", ActEdgesTest::bounceTwice);
        document.says("A SHOT: the first ROD of the other SIDE that COVERS where it is gets it (likewise)", ActEdgesTest::firstCatcher);
        document.says("if none does, behind the last ROD by so much more once more: at 15 to 25 it is a GOAL", ActEdgesTest::goalEdges);
        document.says("it is a GOAL (the BALL is DEAD then)", ActEdgesTest::goal);
        document.says("else it is the keeper's of the other SIDE", ActEdgesTest::keepers);
        document.says("An ACT can not be for the least of these reasons", ActEdgesTest::leastReason);
        document.says("1 a SIDE has 10 GOALS", ActEdgesTest::tenGoals);
        document.says("2 the BALL is DEAD (p, P, s), is not (!)", ActEdgesTest::dead);
        document.says("3 the ROD is HELD already ((), is not HELD () , <, >", ActEdgesTest::held);
        document.says("p, P, s: where the BALL is)", ActEdgesTest::heldWhereTheBallIs);
        document.says("4 the SIDE HOLDS two (()", ActEdgesTest::holdsTwo);
        document.says("5 the SLIDE would be off (<, >)", ActEdgesTest::slideOff);
        document.says("6 there is no such MAN (p, !)", ActEdgesTest::noSuchMan);
        document.says("he is not the next one to either side (p)", ActEdgesTest::nextMan);
        document.says("the ROD is not another one of that SIDE", ActEdgesTest::anotherRod);
        document.says("none of its MEN stands 3 or less off (P)", ActEdgesTest::threeOff);
        document.says("7 it is tenth 999 (.)", ActEdgesTest::lastTenth);
        document.says("of EVENINGS the first ACT (from 0 on) that can not be, and why", ActEdgesTest::judged);
        document.says("DONE: all is so then.", ActEdgesTest::done);
        document.says("EVENINGS on the PAD are DONE (it is empty then): ACTS. NO: there is a FAULT, or an ACT that can not be.", ActEdgesTest::notDone);
        document.says("BEHIND, likewise, not being DONE", ActEdgesTest::notBeingDone);
        document.says("of a ROD its SLIDE, whether it is HELD (1, 0)", ActEdgesTest::behindRods);
        document.says("the ROD that has the BALL, the MAN (NONE: DEAD), where it is (NONE)", ActEdgesTest::behindBall);
        document.says("the tenth, the first ACT that is a GOAL (NONE)", ActEdgesTest::firstGoal);
        document.says("by d (-9 to 9; < if below 0)", ActEdgesTest::ends);
        document.says("each ROD (8: it is a GOAL)", ActEdgesTest::endsByRod);
        document.says("all d (bits of d and 9) by which it is one", ActEdgesTest::bits);
        document.finish();
    }

    private static void slidBy(Due due) {
        FourRods x = new FourRods();
        x.hold(0, true);
        int[][] cases = {{'<', 1, 19}, {'<', 9, 11}, {'>', 1, 21}, {'>', 9, 29}};
        for (int[] one : cases) {
            Due.write(x, "a" + (char) one[0] + one[1]);
            due.is("a" + (char) one[0] + one[1], x.behind(0, 0), one[2]);
        }
    }

    /** The keeper at each place over to rods in the middle; -1: it can not be. */
    private static void nearest(Due due) {
        for (int place = 0; place <= 40; place++) {
            int back = place >= 9 && place <= 15 ? 0 : place >= 25 && place <= 31 ? 1 : -1;
            over(due, "a at " + place, Made.played(0, 0, 0, place), "Pb", back < 0 ? -1 : 10 + back);
            over(due, "h at " + place, Made.played(7, 0, 7, place), "Pg", back < 0 ? -1 : 60 + back);
        }
        for (int place = 0; place <= 40; place++) {
            // d's and e's men stand at 4, 12, 20, 28, 36, so 0, 8, 16, .. are 4 off; c and f cover 7 to 9, 19 to 21, 31 to 33.
            boolean isOff = place % 8 == 0;
            boolean isCaught = place >= 7 && place <= 9 || place >= 19 && place <= 21 || place >= 31 && place <= 33;
            int man = isCaught ? (place - 7) / 12 : place / 8;
            over(due, "a at " + place, Made.played(0, 0, 0, place), "Pd", isOff ? -1 : (isCaught ? 20 : 30) + man);
            over(due, "h at " + place, Made.played(7, 0, 7, place), "Pe", isOff ? -1 : (isCaught ? 50 : 40) + man);
        }
    }

    private static void straightAcross(Due due) {
        FourRods x = Made.played(0, 0, 0, 15);
        Due.write(x, "Pb");
        due.is("b has it", x.then(0), 1);
        due.is("where b's man stands, not where a's did", x.then(2), 12);
        // From 9 to d's man at 12: c covers 9, and not 12.
        over(due, "c gets it at 9", Made.played(0, 0, 0, 9), "Pd", 20);
        // From 10 to d's man at 12: c covers 12, and not 10.
        over(due, "c does not get it at 10", Made.played(0, 0, 0, 10, 2, 12), "Pd", 31);
    }

    private static void firstBetween(Due due) {
        over(due, "a to f, c and e cover", Made.played(0, 0), "Pf", 21);
        over(due, "a to f, e covers", Made.played(0, 0, 2, 10), "Pf", 42);
        over(due, "a to f, none covers", Made.played(0, 0, 2, 10, 4, 0), "Pf", 51);
        over(due, "f to a, e and c cover", Made.played(5, 1), "Pa", 42);
        over(due, "f to a, c covers", Made.played(5, 1, 4, 0), "Pa", 21);
        over(due, "f to a, none covers", Made.played(5, 1, 4, 0, 2, 10), "Pa", 0);
        over(due, "h to c, f and d cover", Made.played(7, 0), "Pc", 51);
        over(due, "h to c, d covers", Made.played(7, 0, 5, 10), "Pc", 32);
        over(due, "h to c, none covers", Made.played(7, 0, 5, 10, 3, 0), "Pc", 21);
        over(due, "c to h, d and f cover", Made.played(2, 1), "Ph", 32);
        over(due, "c to h, f covers", Made.played(2, 1, 3, 0), "Ph", 51);
        over(due, "c to h, none covers", Made.played(2, 1, 3, 0, 5, 10), "Ph", 70);
    }

    private static void onlyBetween(Due due) {
        over(due, "a to d, e beyond covers", Made.played(0, 0, 2, 10), "Pd", 32);
        over(due, "d to f, c before covers", Made.played(3, 2, 4, 0), "Pf", 51);
        over(due, "f to d, c beyond and g before cover", Made.played(5, 1, 4, 0, 6, 4), "Pd", 32);
        over(due, "a to d, its own b between covers", Made.played(0, 0, 2, 10, 1, 4), "Pd", 32);
        over(due, "a to b, none is between", Made.played(0, 0, 1, 20), "Pb", 10);
        over(due, "b to a, c before covers", Made.played(1, 0, 1, 20), "Pa", 0);
        over(due, "h to e, its own g between covers", Made.played(7, 0, 5, 10, 6, 4), "Pe", 42);
        over(due, "g to h, f before covers", Made.played(6, 0, 6, 20), "Ph", 70);
    }

    private static void passCovered(Due due) {
        int[] slides = {2, 3, 4, 5, 6};
        for (int slide : slides) {
            boolean isCaught = slide >= 3 && slide <= 5;
            over(due, "d at 12 to f at 12, e at " + (slide + 8), Made.played(3, 1, 5, 12, 4, slide), "Pf", isCaught ? 41 : 50);
            over(due, "e at 12 to c at 12, d at " + (slide + 8), Made.played(4, 1, 2, 12, 3, slide), "Pc", isCaught ? 31 : 20);
        }
    }

    private static void shotWay(Due due) {
        // From f at 20: by 8 less at g's 12, by 8 more at g's 28.
        due.is("s<8", Made.behind(Made.played(5, 1), "s<8"), 60);
        due.is("s>8", Made.behind(Made.played(5, 1), "s>8"), 61);
        // From c at 20: by 8 less at b's 12, by 8 more at b's 28.
        due.is("s<8 of the other side", Made.behind(Made.played(2, 1), "s<8"), 10);
        due.is("s>8 of the other side", Made.behind(Made.played(2, 1), "s>8"), 11);
        due.is("s<0", Made.behind(Made.played(5, 1), "s<0"), 70);
        due.is("s>0", Made.behind(Made.played(5, 1), "s>0"), 70);
    }

    /** By one each rod: from a at 20 at c 22, e 24, g 26, h 27, behind 28. Its own rods count, and do not get it. */
    private static void eachRod(Due due) {
        due.is("c at 23, 11", Made.played(0, 0, 2, 11).ends(1), 2);
        due.is("c at 24", Made.played(0, 0, 2, 12).ends(1), 7);
        due.is("e at 23", Made.played(0, 0, 4, 7).ends(1), 4);
        due.is("e at 22", Made.played(0, 0, 4, 6).ends(1), 7);
        due.is("g at 27", Made.played(0, 0, 6, 11).ends(1), 6);
        due.is("g at 28", Made.played(0, 0, 6, 12).ends(1), 7);
        due.is("its own b at 21 and d at 23", Made.played(0, 0, 1, 21, 3, 7).ends(1), 7);
        due.is("f from h: at 22, 23", Made.played(7, 0, 5, 11).ends(1), 5);
        due.is("f from h: at 22, 24", Made.played(7, 0, 5, 12).ends(1), 0);
        due.is("rods behind it: f shoots, e and c cover", Made.played(5, 1, 7, 0).ends(0), 8);
        due.is("rods behind it: c shoots, d and f cover", Made.played(2, 1, 0, 0).ends(0), 8);
    }

    private static void bounce(Due due) {
        int[] backs = {21, 22, 23, 24};
        int[] wanted = {7, 6, 6, 6};
        for (int i = 0; i < 4; i++) due.is("f from 40 by 1 more, g at " + backs[i], Made.played(5, 2, 5, 16, 6, backs[i]).ends(1), wanted[i]);
        for (int i = 0; i < 4; i++) due.is("f from 0 by 1 less, g at " + i, Made.played(5, 0, 5, 0, 6, i).ends(-1), i == 3 ? 7 : 6);
        // From 31 by 9 more: 40 at g, 31 at h, 22 behind. From 9 by 9 less: 0, 9, 18.
        due.is("40 is 40", Made.played(5, 2, 5, 7).ends(9), 8);
        due.is("40 is 40: g at 40", Made.played(5, 2, 5, 7, 6, 24).ends(9), 6);
        due.is("40 is 40: g at 39", Made.played(5, 2, 5, 7, 6, 23).ends(9), 6);
        due.is("40 is 40: g at 38", Made.played(5, 2, 5, 7, 6, 22).ends(9), 8);
        for (int h = 29; h <= 33; h++) due.is("49 is 31: h at " + h, Made.played(5, 2, 5, 7, 7, h).ends(9), h == 29 || h == 33 ? 8 : 7);
        due.is("0 is 0", Made.played(5, 0, 5, 9).ends(-9), 8);
        for (int g = 0; g <= 2; g++) due.is("0 is 0: g at " + g, Made.played(5, 0, 5, 9, 6, g).ends(-9), g == 2 ? 8 : 6);
        for (int h = 7; h <= 11; h++) due.is("-9 is 9: h at " + h, Made.played(5, 0, 5, 9, 7, h).ends(-9), h == 7 || h == 11 ? 8 : 7);
    }

    /** From 28 by 9 more: at the second rod 34, the fourth 16, the sixth 2, the seventh 11, behind 20. From 12 by 9 less likewise. */
    private static void bounceTwice(Due due) {
        for (int i = 0; i <= 4; i++) {
            int backs = i == 0 || i == 4 ? 8 : 6;
            int keeper = i == 0 || i == 4 ? 8 : 7;
            due.is("a: 82 is 2, g at " + i, Made.played(0, 0, 0, 28, 6, i).ends(9), backs);
            due.is("a: 91 is 11, h at " + (9 + i), Made.played(0, 0, 0, 28, 7, 9 + i).ends(9), keeper);
            due.is("a: -42 is 38, g at " + (36 + i), Made.played(0, 0, 0, 12, 6, 20 + i).ends(-9), backs);
            due.is("a: -51 is 29, h at " + (27 + i), Made.played(0, 0, 0, 12, 7, 27 + i).ends(-9), keeper);
            due.is("h: 82 is 2, b at " + i, Made.played(7, 0, 7, 28, 1, i).ends(9), backs == 6 ? 1 : 8);
            due.is("h: 91 is 11, a at " + (9 + i), Made.played(7, 0, 7, 28, 0, 9 + i).ends(9), keeper == 7 ? 0 : 8);
        }
        due.is("64 is 16: e at 16", Made.played(0, 0, 0, 28, 4, 0).ends(9), 4);
        due.is("64 is 16: d at 16", Made.played(7, 0, 7, 28, 3, 0).ends(9), 3);
    }

    private static void firstCatcher(Due due) {
        FourRods x = Made.played(0, 0);
        due.is("c, e and h cover 20", x.ends(0), 2);
        x.slide(2, 10);
        due.is("e and h cover 20", x.ends(0), 4);
        x.slide(4, 0);
        due.is("h covers 20", x.ends(0), 7);
        x.slide(6, 4);
        due.is("g and h cover 20", x.ends(0), 6);
        FourRods y = Made.played(7, 0);
        due.is("f, d and a cover 20", y.ends(0), 5);
        y.slide(5, 10);
        due.is("d and a cover 20", y.ends(0), 3);
        y.slide(3, 0);
        due.is("a covers 20", y.ends(0), 0);
        // Straight at each of e's men: that man gets it.
        for (int man = 0; man < 5; man++) {
            FourRods z = Made.played(3, man);
            due.is("e's man " + man, Made.behind(z, "s>0"), 40 + man);
        }
    }

    private static void goalEdges(Due due) {
        int[][] cases = {
            // f's slide, man, d, g's slide; from 14, 15, 25, 26 straight on.
            {2, 1, 0, 12, 7}, {3, 1, 0, 12, 8}, {13, 1, 0, 12, 8}, {14, 1, 0, 12, 7},
            // By one more from 11, 12, 22, 23: behind are 14, 15, 25, 26.
            {11, 0, 1, 0, 7}, {12, 0, 1, 0, 8}, {10, 1, 1, 12, 8}, {11, 1, 1, 12, 7},
            // By one less from 17, 18, 28, 29.
            {5, 1, -1, 12, 7}, {6, 1, -1, 12, 8}, {4, 2, -1, 0, 8}, {5, 2, -1, 0, 7}};
        for (int[] n : cases) {
            due.is("f at " + (n[0] + 12 * n[1]) + " by " + n[2], Made.played(5, n[1], 5, n[0], 6, n[3], 7, 0).ends(n[2]), n[4]);
            due.is("c at " + (n[0] + 12 * n[1]) + " by " + n[2], Made.played(2, n[1], 2, n[0], 1, n[3], 0, 0).ends(n[2]), n[4] == 7 ? 0 : 8);
        }
    }

    private static void goal(Due due) {
        FourRods x = Made.played(5, 1);
        Due.write(x, "s>1");
        int[] first = {NONE, NONE, NONE, 1, 0, 0, 0};
        for (int what = 0; what < 7; what++) due.is("side 0 scores: then(" + what + ")", x.then(what), first[what]);
        due.judged(x, "s>1s>1", 1, 2);
        due.fine(x, "s>1!h0");
        FourRods y = Made.played(2, 0);
        Due.write(y, "s<9");
        int[] second = {NONE, NONE, NONE, 0, 1, 0, 0};
        for (int what = 0; what < 7; what++) due.is("side 1 scores: then(" + what + ")", y.then(what), second[what]);
    }

    private static void keepers(Due due) {
        FourRods x = Made.played(5, 0, 7, 33);
        Due.write(x, "s>0");
        int[] first = {7, 0, 33, 0, 0, 0, NONE};
        for (int what = 0; what < 7; what++) due.is("f beside the goal: then(" + what + ")", x.then(what), first[what]);
        FourRods y = Made.played(2, 0, 0, 33);
        Due.write(y, "s>0");
        int[] second = {0, 0, 33, 0, 0, 0, NONE};
        for (int what = 0; what < 7; what++) due.is("c beside the goal: then(" + what + ")", y.then(what), second[what]);
        due.judged(x, "s>0s>0", 1, 3);
        due.fine(x, "s>0h(s>0");
    }

    private static void leastReason(Due due) {
        FourRods x = new FourRods();
        x.goals(1, 10);
        for (String act : new String[] {"p4", "Ph", "!a4", "a)", "a<9", "a>9"}) due.judged(x, act, 0, 1);
        due.judged(Made.played(0, 0), "!a4", 0, 2);
        due.judged(new FourRods(), "p4", 0, 2);
        due.judged(new FourRods(), "Ph", 0, 2);
        FourRods y = Made.slid(0, 40, 3, 0);
        y.hold(0, true);
        y.hold(1, true);
        due.judged(y, "a(", 0, 3);
        due.judged(y, "d<1", 0, 3);
        due.judged(y, "d(", 0, 4);
        due.judged(y, "a>1", 0, 5);
        y.ball(3, 2);
        due.judged(y, "p4", 0, 3);
        due.judged(y, "Pd", 0, 3);
        due.judged(y, "Ph", 0, 3);
        y.goals(0, 10);
        for (String act : new String[] {"a(", "d<1", "d(", "a>1", "p4", "Pd", "!a0"}) due.judged(y, act, 0, 1);
    }

    private static void tenGoals(Due due) {
        for (int side = 0; side < 2; side++) {
            FourRods x = Made.played(0, 0, 0, 12);
            x.goals(side, 10);
            for (String act : ALL_KINDS) due.judged(x, act, 0, 1);
            due.fine(x, "");
            x.goals(side, 9);
            for (String act : new String[] {"b(", "a)", "a<1", "a>1", "Pb", "s<0", "s>9", "."}) due.fine(x, act);
            x.ball(-1, 0);
            due.fine(x, "!a0");
        }
        // The tenth goal can be; what is behind it can not.
        FourRods y = Made.played(5, 1);
        y.goals(0, 9);
        due.fine(y, "s>1");
        due.judged(y, "s>1.", 1, 1);
        y.goals(0, 8);
        due.fine(y, "s>1.!f1s>1");
        due.judged(y, "s>1.!f1s>1!f1", 4, 1);
        FourRods z = Made.played(2, 0);
        z.goals(1, 9);
        due.judged(z, "s<9a(", 1, 1);
    }

    private static void dead(Due due) {
        FourRods x = Made.played(0, 0, 0, 12);
        for (String act : new String[] {"Pb", "s<0", "s>9"}) due.fine(x, act);
        due.judged(x, "!a0", 0, 2);
        due.judged(x, "!h0", 0, 2);
        x.ball(-1, 0);
        for (String act : new String[] {"p0", "p1", "Pb", "s<0", "s>9"}) due.judged(x, act, 0, 2);
        for (String act : new String[] {"!a0", "a)", "b(", "a<1", "a>1", "."}) due.fine(x, act);
        due.judged(x, "!a0!a0", 1, 2);
    }

    private static void held(Due due) {
        for (char rod = 'a'; rod <= 'h'; rod++) {
            FourRods x = new FourRods();
            due.fine(x, rod + "(");
            due.judged(x, rod + ")", 0, 3);
            due.judged(x, rod + "<1", 0, 3);
            due.judged(x, rod + ">1", 0, 3);
            due.judged(x, rod + "(" + rod + "(", 1, 3);
            due.judged(x, rod + "(" + rod + ")" + rod + ")", 2, 3);
            due.fine(x, rod + "(" + rod + "<1" + rod + ">1" + rod + ")" + rod + "(");
        }
        due.judged(new FourRods(), "a(b<1", 1, 3);
        due.judged(new FourRods(), "a(h)", 1, 3);
    }

    private static void heldWhereTheBallIs(Due due) {
        FourRods x = Made.slid(0, 12);
        x.ball(0, 0);
        x.hold(1, true);
        x.hold(7, true);
        for (String act : new String[] {"p1", "Pb", "s<0", "s>9"}) due.judged(x, act, 0, 3);
        x.hold(1, false);
        x.hold(0, true);
        // The receiver's rod need not be held, until it is played.
        for (String act : new String[] {"Pb", "s<0", "s>9"}) due.fine(x, act);
        due.judged(x, "PbPa", 1, 3);
        due.judged(x, "Pbp1", 1, 3);
        due.judged(x, "Pbs>0", 1, 3);
        due.fine(x, "Pbb(p1");
        due.judged(x, "Pbb(b)p1", 3, 3);
        due.judged(x, "!h0", 0, 2);
        x.ball(-1, 0);
        x.hold(0, false);
        due.fine(x, "!a0");
    }

    private static void holdsTwo(Due due) {
        due.judged(new FourRods(), "a(b(d(", 2, 4);
        due.judged(new FourRods(), "a(b(h(g(e(", 4, 4);
        due.fine(new FourRods(), "a(b(h(g(");
        due.fine(new FourRods(), "a(b(a)d(b)f(");
        due.judged(new FourRods(), "a(b(a)d(a(", 4, 4);
    }

    private static void slideOff(Due due) {
        for (int rod = 0; rod < 8; rod++) {
            char letter = (char) ('a' + rod);
            FourRods x = new FourRods();
            x.hold(rod, true);
            for (int by = 1; by <= 9; by++) {
                x.slide(rod, Math.min(by, Made.LAST_SLIDE[rod]));
                boolean isRoom = by <= Made.LAST_SLIDE[rod];
                if (isRoom) due.fine(x, letter + "<" + by);
                x.slide(rod, Math.min(by - 1, Made.LAST_SLIDE[rod]));
                due.judged(x, letter + "<" + by, 0, 5);
                x.slide(rod, Math.max(Made.LAST_SLIDE[rod] - by, 0));
                if (isRoom) due.fine(x, letter + ">" + by);
                x.slide(rod, Math.max(Made.LAST_SLIDE[rod] - by + 1, 0));
                due.judged(x, letter + ">" + by, 0, 5);
            }
        }
        FourRods y = new FourRods();
        Due.write(y, "d(d<4");
        due.is("to 0", y.behind(3, 0), 0);
        Due.write(y, "d(d>4");
        due.is("to 8", y.behind(3, 0), 8);
    }

    private static void noSuchMan(Due due) {
        for (int rod = 0; rod < 8; rod++) {
            FourRods x = new FourRods();
            for (int man = 0; man <= 4; man++) {
                String act = "!" + (char) ('a' + rod) + man;
                if (man < Made.MEN[rod]) {
                    due.fine(x, act);
                    due.is(act, Made.receiver(x), 10 * rod + man);
                } else {
                    due.judged(x, act, 0, 6);
                }
            }
            int last = Made.MEN[rod] - 1;
            if (last < 4) due.judged(Made.played(rod, last), "p" + (last + 1), 0, 6);
        }
    }

    private static void nextMan(Due due) {
        for (int rod = 0; rod < 8; rod++) {
            for (int man = 0; man < Made.MEN[rod]; man++) {
                FourRods x = Made.played(rod, man);
                for (int to = 0; to <= 4; to++) {
                    boolean isNext = to < Made.MEN[rod] && (to == man - 1 || to == man + 1);
                    due.judged(x, "p" + to, isNext ? NONE : 0, isNext ? NONE : 6);
                    if (isNext) due.is("p" + to, Made.receiver(x), 10 * rod + to);
                }
            }
        }
    }

    /** All in line at 20, and none of the other side's there. */
    private static void anotherRod(Due due) {
        int[] inLine = {20, 4, 8, 4, 4, 8, 4, 20};
        int[] aside = {0, 0, 0, 0, 0, 0, 0, 0};
        int[] whoInLine = {0, 1, 1, 2, 2, 1, 1, 0};
        for (int side = 0; side < 2; side++) {
            for (int from : Made.RODS_OF[side]) {
                FourRods x = new FourRods();
                for (int rod : Made.RODS_OF[side]) x.slide(rod, inLine[rod]);
                for (int rod : Made.RODS_OF[1 - side]) x.slide(rod, aside[rod]);
                x.hold(from, true);
                x.ball(from, whoInLine[from]);
                for (int to : Made.RODS_OF[side]) over(due, "in line", x, "P" + (char) ('a' + to), to == from ? -1 : 10 * to + whoInLine[to]);
                for (int to : Made.RODS_OF[1 - side]) {
                    x.slide(to, inLine[to]);
                    over(due, "the other side's", x, "P" + (char) ('a' + to), -1);
                    x.slide(to, aside[to]);
                }
            }
        }
    }

    private static void threeOff(Due due) {
        int[] offs = {-4, -3, 0, 3, 4};
        for (int off : offs) {
            boolean can = off >= -3 && off <= 3;
            over(due, "a " + off + " from b's first", Made.played(0, 0, 0, 12 + off), "Pb", can ? 10 : -1);
            over(due, "a " + off + " from b's second", Made.played(0, 0, 0, 28 + off), "Pb", can ? 11 : -1);
            over(due, "g to h " + off, Made.played(6, 0, 7, 12 + off), "Ph", can ? 70 : -1);
            over(due, "d to f " + off + ", e aside", Made.played(3, 2, 4, 0, 5, 8 + off), "Pf", can ? 51 : -1);
        }
        // Whom it does not come near can not get it either.
        over(due, "c would cover 20, d's 16 and 24 are 4 off", Made.played(0, 0, 3, 0), "Pd", -1);
    }

    /** Past 512 calls: the document promises no more there, but nothing earlier comes to tenth 999. */
    private static void lastTenth(Due due) {
        FourRods x = new FourRods();
        for (int i = 0; i < 16; i++) {
            Due.write(x, SIXTY);
            x.done();
        }
        due.is("960 tenths", x.told(4), 960);
        due.fine(x, ".".repeat(39));
        due.judged(x, ".".repeat(40), 39, 7);
        Due.write(x, ".".repeat(39));
        x.done();
        due.is("tenth 999", x.told(4), 999);
        due.judged(x, ".", 0, 7);
        due.judged(x, "a(.", 1, 7);
        due.fine(x, "a(");
        x.goals(0, 10);
        due.judged(x, ".", 0, 1);
    }

    private static void judged(Due due) {
        due.fine(new FourRods(), "");
        due.fine(new FourRods(), SIXTY);
        due.judged(new FourRods(), "a)", 0, 3);
        due.judged(new FourRods(), ".".repeat(58) + "a)", 58, 3);
        due.judged(new FourRods(), "a)!a4", 0, 3);
        due.judged(new FourRods(), "a(!a4a(", 1, 6);
        FourRods x = Made.said("a");
        due.is("a FAULT: judge(0)", x.judge(0), NO);
        due.is("a FAULT: judge(1)", x.judge(1), NO);
        due.is("a FAULT: judge(2)", x.judge(2), OUTSIDE);
        due.is("a FAULT: judge(-1)", x.judge(-1), OUTSIDE);
        Due.write(x, "a)a");
        due.is("a FAULT behind what can not be: judge(0)", x.judge(0), NO);
    }

    private static void done(Due due) {
        FourRods x = new FourRods();
        due.is("none", x.done(), 0);
        Due.write(x, SIXTY);
        due.is("sixty", x.done(), 60);
        due.is("tenth", x.told(4), 60);
        due.is("the pad is empty", x.told(0), 0);
        due.is("none again", x.done(), 0);
        due.is("tenth", x.told(4), 60);
        x.goals(1, 9);
        Due.write(x, "f(a(a<9f>1!f0p1.g(g<9h(h>9h<1");
        due.is("judge", x.judge(0), NONE);
        int[] slides = new int[8];
        for (int rod = 0; rod < 8; rod++) slides[rod] = x.behind(rod, 0);
        int held = 0;
        for (int rod = 0; rod < 8; rod++) held |= x.behind(rod, 1) << rod;
        int[] then = new int[6];
        for (int what = 0; what < 6; what++) then[what] = x.then(what);
        due.is("acts", x.done(), 12);
        for (int rod = 0; rod < 8; rod++) due.is("slide of " + rod, x.told(20 + rod), slides[rod]);
        due.is("HELD", x.told(1), held);
        due.is("HELD", x.told(1), 1 + 32 + 64 + 128);
        due.is("the ROD", x.told(2), then[0]);
        due.is("the MAN", x.told(3), then[1]);
        due.is("where", x.told(100 + 10 * then[0] + then[1]), then[2]);
        due.is("GOALS of 0", x.told(10), then[3]);
        due.is("GOALS of 1", x.told(11), then[4]);
        due.is("the tenth", x.told(4), then[5]);
        x.ball(5, 1);
        x.slide(5, 8);
        x.slide(7, 20);
        Due.write(x, "s>1");
        due.is("a goal", x.done(), 1);
        due.is("GOALS of 0", x.told(10), 1);
        due.is("GOALS of 1", x.told(11), 9);
        due.is("DEAD", x.told(2), NONE);
        due.is("DEAD", x.told(3), NONE);
    }

    private static void notDone(Due due) {
        FourRods x = Made.said("a(b<1");
        due.is("an ACT that can not be", x.done(), NO);
        due.is("the pad is as it was", x.told(0), 5);
        due.is("a is not HELD", x.told(1), 0);
        due.is("it is judged as before", x.judge(0), 1);
        Due.write(x, "a(.a");
        due.is("a FAULT", x.done(), NO);
        due.is("the pad is as it was", x.told(0), 4);
        due.is("a is not HELD", x.told(1), 0);
        due.is("no tenth", x.told(4), 0);
        x.say('<');
        x.say('1');
        due.is("the pad can go on", x.done(), 3);
    }

    private static void notBeingDone(Due due) {
        FourRods x = Made.said("a(a<9.!a0");
        String before = State.of(x);
        for (int i = 0; i < 2; i++) {
            x.judge(0);
            x.judge(1);
            x.behind(0, 0);
            x.behind(0, 1);
            for (int what = 0; what < 7; what++) x.then(what);
        }
        due.same("what is told", State.of(x), before);
        due.is("tenth", x.told(4), 0);
        due.is("slide", x.told(20), 20);
        due.is("HELD", x.told(1), 0);
        due.is("the ROD", x.told(2), NONE);
        due.is("signs", x.told(0), 9);
    }

    private static void behindRods(Due due) {
        FourRods x = new FourRods();
        x.hold(0, true);
        x.slide(7, 40);
        for (int rod = 0; rod < 8; rod++) {
            due.is("an empty pad: SLIDE of " + rod, x.behind(rod, 0), rod == 7 ? 40 : Made.FIRST_SLIDE[rod]);
            due.is("an empty pad: HELD of " + rod, x.behind(rod, 1), rod == 0 ? 1 : 0);
        }
        Due.write(x, "a)h(h<9");
        due.is("a let go", x.behind(0, 1), 0);
        due.is("h held", x.behind(7, 1), 1);
        due.is("h slid", x.behind(7, 0), 31);
        due.is("behind(0, -1)", x.behind(0, -1), OUTSIDE);
        due.is("behind(0, 2)", x.behind(0, 2), OUTSIDE);
        for (String text : new String[] {"a", "a)a)"}) {
            Due.write(x, text);
            for (int what = 0; what < 2; what++) due.is(text + ": behind(7, " + what + ")", x.behind(7, what), NO);
        }
    }

    private static void behindBall(Due due) {
        FourRods x = new FourRods();
        for (int what = 0; what < 3; what++) due.is("DEAD: then(" + what + ")", x.then(what), NONE);
        x.ball(0, 0);
        x.slide(0, 0);
        for (int what = 0; what < 3; what++) due.is("a at 0: then(" + what + ")", x.then(what), 0);
        x.ball(7, 0);
        x.slide(7, 40);
        int[] last = {7, 0, 40};
        for (int what = 0; what < 3; what++) due.is("h at 40: then(" + what + ")", x.then(what), last[what]);
        // The ball goes with its man.
        Due.write(x, "h(h<9");
        due.is("h at 31", x.then(2), 31);
        due.is("then(-1)", x.then(-1), OUTSIDE);
        due.is("then(7)", x.then(7), OUTSIDE);
        for (String text : new String[] {"a", "a)"}) {
            Due.write(x, text);
            for (int what = 0; what < 7; what++) due.is(text + ": then(" + what + ")", x.then(what), NO);
        }
    }

    private static void firstGoal(Due due) {
        FourRods x = Made.played(5, 1);
        due.is("an empty pad", x.then(6), NONE);
        String[] texts = {"s>1", ".s>1", "s>1.", "s>0", "s<1!f1s>1", "s>0h(s>0", ".".repeat(57) + "s>1"};
        int[] acts = {0, 1, 0, NONE, 0, NONE, 57};
        for (int i = 0; i < texts.length; i++) {
            Due.write(x, texts[i]);
            due.is(texts[i], x.then(6), acts[i]);
        }
        Due.write(x, "...");
        due.is("tenths", x.then(5), 3);
        x.goals(0, 9);
        x.goals(1, 0);
        due.is("goals that were are none of its", x.then(6), NONE);
    }

    private static void ends(Due due) {
        FourRods x = Made.played(5, 1);
        due.is("ends(-10)", x.ends(-10), OUTSIDE);
        due.is("ends(10)", x.ends(10), OUTSIDE);
        due.is("ends(9)", x.ends(9), 6);
        due.is("ends(-9)", x.ends(-9), 6);
        for (int rod = 0; rod < 8; rod++) {
            FourRods y = Made.played(rod, 0);
            for (int d = -9; d <= 9; d++) {
                int behind = Made.behind(y, "s" + (d < 0 ? "<" : ">") + Math.abs(d));
                due.is("rod " + rod + " by " + d, y.ends(d), behind == NONE ? 8 : behind / 10);
            }
        }
        x.hold(5, false);
        x.goals(0, 10);
        due.is("hands and goals are no matter", x.ends(1), 8);
        x.ball(-1, 0);
        due.is("DEAD", x.ends(-9), STATE);
        due.is("DEAD", x.ends(9), STATE);
    }

    private static void endsByRod(Due due) {
        due.is("the other SIDE's keeper 0", Made.played(2, 1).ends(0), 0);
        due.is("its backs 1", Made.played(2, 1).ends(8), 1);
        due.is("c", Made.played(1, 0, 1, 8).ends(0), 2);
        due.is("d", Made.played(4, 0).ends(0), 3);
        due.is("e", Made.played(3, 0).ends(0), 4);
        due.is("f", Made.played(6, 0, 6, 8).ends(0), 5);
        due.is("its backs 6", Made.played(5, 1).ends(8), 6);
        due.is("the other SIDE's keeper 7", Made.played(5, 1).ends(0), 7);
        due.is("a GOAL", Made.played(5, 1).ends(1), 8);
    }

    private static void bits(Due due) {
        due.is("9 less is bit 0", Made.played(5, 0, 5, 9).goesIn() & 1, 1);
        due.is("9 more is bit 18", Made.played(5, 2, 5, 7).goesIn() >> 18, 1);
        due.is("0 is bit 9", Made.played(5, 1, 7, 0).goesIn() >> 9 & 1, 1);
        due.is("none", Made.played(5, 1, 6, 4, 7, 0).goesIn(), 0);
        due.is("DEAD", new FourRods().goesIn(), STATE);
        for (int rod = 0; rod < 8; rod++) {
            for (int man = 0; man < Made.MEN[rod]; man++) {
                FourRods x = Made.played(rod, man, 0, 3, 1, 9, 6, 15, 7, 37);
                int wanted = 0;
                for (int d = -9; d <= 9; d++) if (x.ends(d) == 8) wanted |= 1 << (d + 9);
                due.is("rod " + rod + ", man " + man, x.goesIn(), wanted);
            }
        }
    }

    /** -1: it can not be, for reason 6. */
    private static void over(Due due, String about, FourRods x, String act, int receiver) {
        Due.write(x, act);
        due.is(about + ", " + act + ": judge(0)", x.judge(0), receiver < 0 ? 0 : NONE);
        due.is(about + ", " + act + ": judge(1)", x.judge(1), receiver < 0 ? 6 : NONE);
        if (receiver >= 0) due.is(about + ", " + act + ": receiver", Made.receiver(x), receiver);
    }
}
