/** The edges of the rest of part 4: sights, habits, years, images, and what is told. */
public final class HabitEdgesTest {
    private static final int NONE = Made.NONE, OUTSIDE = Made.OUTSIDE, STATE = Made.STATE, FULL = Made.FULL;
    private static final int[] ALL_ROWS = {16, 17, 32, 33, 34, 35, 48, 49, 50, 51, 52, 53, 54, 55,
        64, 65, 66, 67, 68, 69, 70, 71, 72, 73, 74, 75, 76, 77, 78, 79};

    public static void main(String[] args) throws Exception {
        Sentences document = new Sentences();
        document.says("SIGHTS, 8 at most", HabitEdgesTest::eightSights);
        document.says("shot i (0 to 60) went to side 0, 1", HabitEdgesTest::shotNumbers);
        document.says("SIGHTS go: how many there were.", HabitEdgesTest::forgetting);
        document.says("by a row of p (1 to 4) sides, over and over", HabitEdgesTest::allRows);
        document.says("shot i (0 on) by the one of number i left over by p", HabitEdgesTest::overAndOver);
        document.says("rows, as 16 times p and bits of the sides (the first one's is bit 0), by which all SIGHTS are so", HabitEdgesTest::rowNumbers);
        document.says("how many; the i-th (rising)", HabitEdgesTest::rising);
        document.says("FITS: how many (i = -1), the i-th; NONE (i below -1, too).", HabitEdgesTest::noSuchRow);
        document.says("the shot (0 to 60) to look at next, so that, to whichever side, fewest of these are left at the most: the least; how many",
            HabitEdgesTest::asking);
        document.says("fewest of these are left", HabitEdgesTest::askingAgain);
        document.says("how many (1); NONE: nothing fits. OUTSIDE.", HabitEdgesTest::nothingFits);
        document.says("A YEAR by a seed (0 to 9999) of m ACTS (1 to 99)", HabitEdgesTest::yearNumbers);
        document.says("x becomes (75 x and 74) left over by 65537", HabitEdgesTest::everySeed);
        document.says("of m ACTS (1 to 99), from all as it is", HabitEdgesTest::longYears);
        document.says("7 the BALL, if it is DEAD, is thrown in to MAN z left over by 5 of it, else a tenth", HabitEdgesTest::thrownInOrTenth);
        document.says("each if that can be: GOALS of both; the tenth; the ROD that has the BALL (NONE)", HabitEdgesTest::ifThatCanBe);
        document.says("Nothing is DONE in fact.", HabitEdgesTest::nothingDone);
        document.says("All but the PAD is kept in an IMAGE (0, 1): 1. OUTSIDE.", HabitEdgesTest::allButThePad);
        document.says("in an IMAGE (0, 1)", HabitEdgesTest::imageNumbers);
        document.says("It is as it was when it was kept: 1. OUTSIDE; STATE: it was not.", HabitEdgesTest::asItWas);
        document.says("0 signs, 1 RODS that are HELD (bits), 2 the ROD that has the BALL (NONE), 3 the MAN (NONE), 4 the tenth, 5 SIGHTS; "
            + "10 and a SIDE: GOALS; 20 and a ROD: SLIDE; 100 and 10 times a ROD and a MAN: where he stands. OUTSIDE.", HabitEdgesTest::told);
        document.finish();
    }

    private static void eightSights(Due due) {
        FourRods x = new FourRods();
        due.is("at first", x.told(5), 0);
        for (int i = 1; i <= 8; i++) due.is("sight " + i, x.seen(i, false), i);
        for (int i = 0; i < 2; i++) due.is("a ninth", x.seen(9, true), FULL);
        due.is("a ninth, the same as one that was", x.seen(8, false), FULL);
        due.is("told(5)", x.told(5), 8);
        due.is("all to side 0 but the ninth", x.fits(-1), 4);
        // The eighth counts as the others do.
        FourRods y = new FourRods();
        for (int i = 0; i < 7; i++) y.seen(0, false);
        due.is("seven of one shot", y.fits(-1), 15);
        due.is("the eighth", y.seen(1, true), 8);
        due.is("the eighth, too", y.fits(-1), 7);
    }

    private static void shotNumbers(Due due) {
        FourRods x = new FourRods();
        for (int shot : new int[] {-1, 61, Integer.MIN_VALUE, Integer.MAX_VALUE}) {
            due.is("shot " + shot, x.seen(shot, true), OUTSIDE);
            due.is("shot " + shot, x.seen(shot, false), OUTSIDE);
        }
        due.is("none was seen", x.told(5), 0);
        due.is("shot 0", x.seen(0, true), 1);
        due.is("shot 60", x.seen(60, false), 2);
        due.is("shot 60 is of number 0 of each row", x.fits(-1), 0);
        for (int i = 3; i <= 8; i++) x.seen(0, true);
        due.is("shot 61 of a ninth", x.seen(61, true), OUTSIDE);
        due.is("shot -1 of a ninth", x.seen(-1, true), OUTSIDE);
        // false is side 0, true is side 1.
        FourRods y = new FourRods();
        y.seen(0, false);
        due.is("the first row of side 0", y.fits(0), 16);
        y.forget();
        y.seen(0, true);
        due.is("the first row of side 1", y.fits(0), 17);
    }

    private static void forgetting(Due due) {
        FourRods x = new FourRods();
        due.is("none", x.forget(), 0);
        for (int i = 0; i < 8; i++) x.seen(i, i == 3);
        due.is("eight", x.forget(), 8);
        due.is("none", x.forget(), 0);
        due.is("told(5)", x.told(5), 0);
        due.is("all rows fit again", x.fits(-1), 30);
        due.is("the first again", x.seen(0, true), 1);
        due.is("what was is no matter", x.fits(-1), 15);
    }

    private static void allRows(Due due) {
        FourRods x = new FourRods();
        due.is("two of 1, four of 2, eight of 3, sixteen of 4", x.fits(-1), 30);
        for (int i = 0; i < 30; i++) due.is("row " + i, x.fits(i), ALL_ROWS[i]);
    }

    /** A row of four tells shots 4 to 60 as 0 to 3; and so on. */
    private static void overAndOver(Due due) {
        for (int row : ALL_ROWS) {
            int p = row / 16;
            for (int shot = 0; shot <= 60; shot++) {
                boolean second = (row >> shot % p & 1) == 1;
                FourRods x = new FourRods();
                for (int i = 0; i < 4; i++) x.seen(i, (row >> i % p & 1) == 1);
                x.seen(59, (row >> 59 % p & 1) == 1);
                int before = x.fits(-1);
                x.seen(shot, second);
                due.holds("row " + row + " fits, shot " + shot, contains(x, row));
                due.holds("of no more than before", x.fits(-1) <= before);
                x.seen(shot, !second);
                due.is("none fits both sides of shot " + shot, x.fits(-1), 0);
                FourRods y = new FourRods();
                y.seen(shot, !second);
                due.holds("row " + row + " does not fit, shot " + shot, !contains(y, row));
            }
        }
    }

    private static boolean contains(FourRods x, int row) {
        for (int i = 0; i < 30; i++) {
            if (x.fits(i) == row) return true;
        }
        return false;
    }

    private static void rowNumbers(Due due) {
        // Shot i of four to side 1, the others to side 0: bit i of a row of four alone.
        for (int i = 0; i < 4; i++) {
            FourRods x = new FourRods();
            for (int shot = 0; shot < 4; shot++) x.seen(shot, shot == i);
            due.is("bit " + i, x.fits(x.fits(-1) - 1), 64 + (1 << i));
            due.is("and a row of three, if shot 0 went as shot 3 did", x.fits(-1), i == 1 || i == 2 ? 2 : 1);
        }
        FourRods x = new FourRods();
        x.seen(0, true);
        x.seen(1, false);
        int[] rows = {33, 49, 53, 65, 69, 73, 77};
        due.is("1 0 ..", x.fits(-1), 7);
        for (int i = 0; i < 7; i++) due.is("row " + i, x.fits(i), rows[i]);
    }

    private static void rising(Due due) {
        for (int shot = 0; shot <= 60; shot++) {
            FourRods x = new FourRods();
            x.seen(shot, true);
            int there = x.fits(-1);
            due.is("half of all fit", there, 15);
            for (int i = 1; i < there; i++) due.holds("row " + i + " is above the one before", x.fits(i) > x.fits(i - 1));
        }
    }

    private static void noSuchRow(Due due) {
        FourRods x = new FourRods();
        due.is("the first", x.fits(0), 16);
        due.is("the last", x.fits(29), 79);
        for (int i : new int[] {30, 31, -2, Integer.MIN_VALUE, Integer.MAX_VALUE}) due.is("fits(" + i + ")", x.fits(i), NONE);
        x.seen(0, true);
        due.is("the last of fifteen", x.fits(14), 79);
        due.is("one more", x.fits(15), NONE);
        due.is("one of before", x.fits(29), NONE);
        x.seen(0, false);
        due.is("none", x.fits(-1), 0);
        due.is("the first of none", x.fits(0), NONE);
        due.is("fits(-2)", x.fits(-2), NONE);
    }

    /** As the sentence says: every shot is looked at, and went to either side. */
    private static void asking(Due due) {
        String[] seen = {"", "0+", "0+1-", "0-1+2-", "3+", "60-", "59+58-57+", "0-0-0-0-0-0-0-", "0+4+8+12+", "1-2-3-", "7+11-", "0-1-2-3-", "0+1-2+3-"};
        for (String sights : seen) {
            int fewest = 99;
            int least = -1;
            for (int shot = 0; shot <= 60; shot++) {
                int most = Math.max(left(sights + shot + "+"), left(sights + shot + "-"));
                if (most < fewest) {
                    fewest = most;
                    least = shot;
                }
            }
            FourRods x = sighted(sights);
            due.is("after " + sights + ": the shot", x.ask(0), least);
            due.is("after " + sights + ": how many are left", x.ask(1), fewest);
        }
    }

    /** Of these: rows that fitted before a sight more are none of them. */
    private static void askingAgain(Due due) {
        FourRods x = new FourRods();
        int[] left = {15, 8, 4, 2, 1};
        for (int i = 0; i < 5; i++) {
            due.is("how many are left after " + i, x.ask(1), left[i]);
            due.is("the shot after " + i, x.ask(0), i < 4 ? i : 0);
            x.seen(i, i == 0);
        }
    }

    private static int left(String sights) {
        return sighted(sights).fits(-1);
    }

    private static FourRods sighted(String sights) {
        FourRods x = new FourRods();
        int shot = 0;
        for (char sign : sights.toCharArray()) {
            if (sign >= '0' && sign <= '9') {
                shot = 10 * shot + sign - '0';
            } else {
                x.seen(shot, sign == '+');
                shot = 0;
            }
        }
        return x;
    }

    private static void nothingFits(Due due) {
        FourRods x = sighted("0+0-");
        for (int what = 0; what < 2; what++) due.is("ask(" + what + ")", x.ask(what), NONE);
        due.is("ask(-1)", x.ask(-1), OUTSIDE);
        due.is("ask(2)", x.ask(2), OUTSIDE);
        x.forget();
        due.is("ask(-1)", x.ask(-1), OUTSIDE);
        due.is("ask(2)", x.ask(2), OUTSIDE);
        due.is("ask(0)", x.ask(0), 0);
        due.is("ask(1)", x.ask(1), 15);
        FourRods y = sighted("0-1-2-3+");
        due.is("one row alone: the shot", y.ask(0), 0);
        due.is("one row alone: it is left", y.ask(1), 1);
    }

    private static void yearNumbers(Due due) {
        FourRods x = new FourRods();
        int[][] refused = {{-1, 1}, {10000, 1}, {0, 0}, {0, 100}, {0, -1}, {9999, 100}, {Integer.MIN_VALUE, 1}, {Integer.MAX_VALUE, 1},
            {0, Integer.MIN_VALUE}, {0, Integer.MAX_VALUE}};
        for (int[] n : refused) {
            for (int what = 0; what < 3; what++) due.is("year of " + n[0] + ", " + n[1], x.year(n[0], n[1], what), OUTSIDE);
        }
        due.is("what -1", x.year(0, 1, -1), OUTSIDE);
        due.is("what 3", x.year(0, 1, 3), OUTSIDE);
        for (int seed = 0; seed <= 9999; seed += 9999) {
            for (int m = 1; m <= 99; m += 98) {
                due.holds("taken", x.year(seed, m, 0) >= 0);
                due.holds("taken", x.year(seed, m, 1) >= 0);
                due.holds("taken", x.year(seed, m, 2) >= 0 || x.year(seed, m, 2) == NONE);
            }
        }
    }

    /** The one act that each seed draws, from four tables, against the same act on a pad; 873 is the first that wraps round. */
    private static void everySeed(Due due) {
        for (int i = 0; i < 4; i++) {
            FourRods x = yearTable(i);
            FourRods y = yearTable(i);
            int dead = x.told(2) == NONE ? 1 : 0;
            for (int seed = 0; seed <= 9999; seed++) {
                // A table is asked 120 times at the most.
                if (seed % 20 == 0) {
                    x = yearTable(i);
                    y = yearTable(i);
                }
                int drawn = (75 * seed + 74) % 65537;
                Due.write(y, drawnAct(drawn, dead == 1));
                if (y.judge(0) != NONE) y.wipe();
                due.is("table " + i + ", seed " + seed + ": GOALS", x.year(seed, 1, 0), y.then(3) + y.then(4));
                due.is("table " + i + ", seed " + seed + ": the tenth", x.year(seed, 1, 1), y.then(5));
                due.is("table " + i + ", seed " + seed + ": the ROD", x.year(seed, 1, 2), y.then(0));
            }
        }
        due.is("873 is 65549, so 12", (75 * 873 + 74) % 65537, 12);
    }

    private static FourRods yearTable(int i) {
        if (i == 0) return new FourRods();
        if (i == 1) return Made.played(5, 1, 4, 0);
        FourRods x = i == 2 ? Made.played(3, 2, 5, 9, 4, 0) : Made.played(2, 0);
        x.hold(0, true);
        x.hold(6, true);
        x.goals(0, 9);
        x.goals(1, 9);
        return x;
    }

    private static String drawnAct(int drawn, boolean isDead) {
        char rod = (char) ('a' + drawn % 8);
        int z = drawn / 64;
        int d = z % 19 - 9;
        String[] acts = {rod + "(", rod + ")", rod + "<" + (1 + z % 9), rod + ">" + (1 + z % 9), "p" + z % 5, "P" + rod,
            (d < 0 ? "s<" : "s>") + Math.abs(d), isDead ? "!" + rod + z % 5 : "."};
        return acts[drawn / 8 % 8];
    }

    /** Act by act on a pad, each if that can be: as long as a year can be. */
    private static void longYears(Due due) {
        for (int seed = 0; seed <= 9999; seed += 101) {
            int length = seed % 2 == 0 ? 99 : 98;
            FourRods y = yearTable(seed % 4);
            int drawn = seed;
            for (int i = 0; i < length; i++) {
                drawn = (75 * drawn + 74) % 65537;
                boolean mayBeThrownIn = drawn / 8 % 8 == 7 && y.told(2) == NONE;
                for (char sign : drawnAct(drawn, mayBeThrownIn).toCharArray()) y.say(sign);
                if (y.done() == Made.NO) y.wipe();
            }
            FourRods x = yearTable(seed % 4);
            due.is("seed " + seed + ": GOALS", x.year(seed, length, 0), y.told(10) + y.told(11));
            due.is("seed " + seed + ": the tenth", x.year(seed, length, 1), y.told(4));
            due.is("seed " + seed + ": the ROD", x.year(seed, length, 2), y.told(2));
        }
    }

    private static void thrownInOrTenth(Due due) {
        int thrownIn = 0;
        int noSuchMan = 0;
        for (int seed = 0; seed <= 9999; seed++) {
            int drawn = (75 * seed + 74) % 65537;
            if (drawn / 8 % 8 != 7) continue;
            int rod = drawn % 8;
            int man = drawn / 64 % 5;
            FourRods x = new FourRods();
            boolean isThere = man < Made.MEN[rod];
            due.is("seed " + seed + ": thrown in to " + rod + " " + man, x.year(seed, 1, 2), isThere ? rod : NONE);
            due.is("seed " + seed + ": no tenth", x.year(seed, 1, 1), 0);
            if (isThere) thrownIn++; else noSuchMan++;
            x.ball(7, 0);
            due.is("seed " + seed + ": the ball stays", x.year(seed, 1, 2), 7);
            due.is("seed " + seed + ": a tenth", x.year(seed, 1, 1), 1);
        }
        due.holds("both come", thrownIn > 100 && noSuchMan > 100);
    }

    private static void ifThatCanBe(Due due) {
        FourRods x = Made.played(5, 1);
        x.goals(0, 4);
        x.goals(1, 10);
        for (int seed = 0; seed < 100; seed++) {
            due.is("a SIDE has 10: GOALS", x.year(seed, 99, 0), 14);
            due.is("a SIDE has 10: the tenth", x.year(seed, 99, 1), 0);
            due.is("a SIDE has 10: the ROD", x.year(seed, 99, 2), 5);
        }
        x = new FourRods();
        x.goals(0, 10);
        due.is("DEAD, and 10: the ROD", x.year(77, 99, 2), NONE);
        x.goals(1, 10);
        due.is("10 to 10: GOALS", x.year(77, 99, 0), 20);
        x.goals(0, 0);
        x.goals(1, 0);
        due.is("none to none: GOALS", x.year(0, 1, 0), 0);
        x.goals(0, 3);
        due.is("of both", x.year(0, 1, 0), 3);
        x.goals(1, 5);
        due.is("of both", x.year(0, 1, 0), 8);
        // The tenth goes on from what it is.
        Due.write(x, "...");
        x.done();
        due.is("the tenth", x.year(0, 1, 1), 3);
    }

    private static void nothingDone(Due due) {
        FourRods x = Made.played(5, 1);
        x.seen(3, true);
        Due.write(x, "a(");
        x.image(0);
        String before = State.of(x);
        for (int seed = 0; seed < 60; seed++) x.year(seed, 99, seed % 3);
        due.same("what is told", State.of(x), before);
        due.is("HELD", x.told(1), 32);
        due.is("the tenth", x.told(4), 0);
    }

    private static FourRods kept() {
        FourRods x = Made.played(5, 2, 0, 0, 1, 24, 2, 16, 3, 8, 4, 0, 5, 1, 6, 2, 7, 40);
        x.hold(7, true);
        x.hold(6, true);
        Due.write(x, "...");
        x.done();
        x.goals(0, 3);
        x.goals(1, 9);
        x.seen(60, true);
        x.seen(7, false);
        return x;
    }

    private static void allButThePad(Due due) {
        FourRods x = kept();
        Due.write(x, "f<1");
        due.is("image(0)", x.image(0), 1);
        due.same("nothing is another", State.of(x), State.of(withPad(kept(), "f<1")));
        // All else becomes another, and the pad, too.
        for (int rod = 0; rod < 8; rod++) x.slide(rod, 5);
        for (int rod : new int[] {5, 6, 7}) x.hold(rod, false);
        x.hold(0, true);
        x.ball(-1, 0);
        x.goals(0, 0);
        x.goals(1, 0);
        Due.write(x, "..");
        x.done();
        x.forget();
        x.seen(1, false);
        x.seen(2, true);
        Due.write(x, ".f<1");
        due.is("restore(0)", x.restore(0), 1);
        due.same("all is as it was but the pad", State.of(x), State.of(withPad(kept(), ".f<1")));
        due.is("signs", x.told(0), 4);
        due.is("the pad can be done", x.done(), 2);
    }

    private static FourRods withPad(FourRods x, String text) {
        Due.write(x, text);
        return x;
    }

    private static void imageNumbers(Due due) {
        FourRods x = new FourRods();
        for (int n : new int[] {-1, 2, Integer.MIN_VALUE, Integer.MAX_VALUE}) {
            due.is("image(" + n + ")", x.image(n), OUTSIDE);
            due.is("restore(" + n + ")", x.restore(n), OUTSIDE);
        }
        for (int n = 0; n < 2; n++) due.is("restore(" + n + ")", x.restore(n), STATE);
        x.slide(0, 1);
        due.is("image(0)", x.image(0), 1);
        due.is("1 was not kept", x.restore(1), STATE);
        x.slide(0, 2);
        due.is("image(1)", x.image(1), 1);
        x.slide(0, 3);
        due.is("restore(0)", x.restore(0), 1);
        due.is("as in 0", x.told(20), 1);
        due.is("restore(1)", x.restore(1), 1);
        due.is("as in 1", x.told(20), 2);
        due.is("restore(0) again", x.restore(0), 1);
        due.is("as in 0", x.told(20), 1);
    }

    private static void asItWas(Due due) {
        FourRods x = new FourRods();
        due.is("restore(0)", x.restore(0), STATE);
        x.image(0);
        FourRods y = kept();
        y.image(1);
        due.is("restore(0) of another object", y.restore(0), STATE);
        due.same("a refused restore changes nothing", State.of(y), State.of(kept()));
        // What is done after keeping or giving back does not touch what is kept.
        for (int i = 0; i < 3; i++) {
            y.slide(0, 30 + i);
            y.ball(i, 0);
            y.goals(0, i);
            y.seen(i, true);
            due.is("restore(1)", y.restore(1), 1);
            due.same("as it was", State.of(y), State.of(kept()));
        }
        // What is kept anew is the later one.
        y.goals(0, 7);
        due.is("image(1) anew", y.image(1), 1);
        y.goals(0, 0);
        due.is("restore(1)", y.restore(1), 1);
        due.is("the later one", y.told(10), 7);
        // A new object's state, kept and given back.
        x.ball(3, 2);
        x.seen(5, true);
        due.is("restore(0)", x.restore(0), 1);
        due.same("as new", State.of(x), State.of(new FourRods()));
    }

    private static void told(Due due) {
        FourRods x = kept();
        Due.write(x, "f<1");
        int[] first = {3, 32 + 64 + 128, 5, 2, 3, 2};
        int[] slides = {0, 24, 16, 8, 0, 1, 2, 40};
        for (int what = -20; what <= 200; what++) {
            int want = OUTSIDE;
            if (what >= 0 && what <= 5) want = first[what];
            if (what == 10) want = 3;
            if (what == 11) want = 9;
            if (what >= 20 && what <= 27) want = slides[what - 20];
            if (what >= 100 && what <= 179 && what % 10 < Made.MEN[(what - 100) / 10]) {
                int rod = (what - 100) / 10;
                want = slides[rod] + what % 10 * Made.APART[rod];
            }
            due.is("told(" + what + ")", x.told(what), want);
        }
        for (int what : new int[] {Integer.MIN_VALUE, Integer.MAX_VALUE, -100, 1000}) due.is("told(" + what + ")", x.told(what), OUTSIDE);
        FourRods y = new FourRods();
        due.is("DEAD: the ROD", y.told(2), NONE);
        due.is("DEAD: the MAN", y.told(3), NONE);
        for (int rod : new int[] {0, 1, 7, 6}) y.hold(rod, true);
        due.is("four are HELD", y.told(1), 1 + 2 + 64 + 128);
    }
}
