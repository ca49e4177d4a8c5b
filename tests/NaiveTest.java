import java.util.Random;

/** Random runs of at most 512 calls, each answer against the naive model's. */
public final class NaiveTest {
    private static final String[] PIECES = {"p", "P", "s", "!", ".", "<", ">", "(", ")", "i", "5", "0"};

    private final Due due;
    private final Random random;
    private FourRods table = new FourRods();
    private Naive naive = new Naive();
    private int run;

    private NaiveTest(Due due, Random random) {
        this.due = due;
        this.random = random;
    }

    public static void main(String[] args) {
        Due due = new Due();
        NaiveTest test = new NaiveTest(due, new Random(20261119));
        for (int run = 0; run < 400; run++) test.run(run);
        test.allNumbers();
        due.finish();
    }

    private void run(int number) {
        run = number;
        table = new FourRods();
        naive = new Naive();
        for (int calls = 0; calls < 380; ) calls += step();
        for (int what = 0; what < 6; what++) is("told(" + what + ")", table.told(what), naive.told(what));
        for (int what = 10; what < 12; what++) is("told(" + what + ")", table.told(what), naive.told(what));
        for (int rod = 0; rod < 8; rod++) is("told(" + (20 + rod) + ")", table.told(20 + rod), naive.told(20 + rod));
    }

    private void is(String call, long got, long want) {
        due.is("run " + run + ": " + call, got, want);
    }

    private int upTo(int n) {
        return random.nextInt(n + 1);
    }

    /** A number of the range, now and then one beside it. */
    private int near(int least, int most) {
        int off = random.nextInt(30);
        return off == 0 ? least - 1 : off == 1 ? most + 1 : least + random.nextInt(most - least + 1);
    }

    private int step() {
        int kind = random.nextInt(100);
        if (kind < 14) return setUp();
        if (kind < 62) return evening();
        if (kind < 68) return shots();
        if (kind < 76) return paths();
        if (kind < 77) return standing();
        if (kind < 90) return habits();
        if (kind < 94) return years();
        if (kind < 97) return images();
        int what = upTo(200) - 3;
        is("told(" + what + ")", table.told(what), naive.told(what));
        return 1;
    }

    private int setUp() {
        int rod = near(0, 7), man = near(0, random.nextBoolean() ? 4 : 1), v = near(0, 40), side = near(0, 1);
        boolean is = random.nextBoolean();
        switch (random.nextInt(8)) {
            case 0: case 1: case 2:
                if (rod >= 0 && rod < 8) v = near(0, Naive.farthest(rod));
                is("slide(" + rod + ", " + v + ")", table.slide(rod, v), naive.slide(rod, v));
                break;
            case 3: case 4:
                is("hold(" + rod + ", " + is + ")", table.hold(rod, is), naive.hold(rod, is));
                break;
            case 5: case 6:
                if (upTo(5) == 0) rod = -1;
                is("ball(" + rod + ", " + man + ")", table.ball(rod, man), naive.ball(rod, man));
                break;
            default:
                v = upTo(3) == 0 ? near(0, 10) : upTo(8);
                is("goals(" + side + ", " + v + ")", table.goals(side, v), naive.goals(side, v));
        }
        return 1;
    }

    private String piece() {
        char rod = (char) ('a' + upTo(7));
        if (naive.ball != null && upTo(2) == 0) rod = (char) ('a' + naive.ball[0]);
        switch (random.nextInt(9)) {
            case 0: return rod + "(";
            case 1: return rod + ")";
            case 2: case 3: return rod + (random.nextBoolean() ? "<" : ">") + (1 + upTo(8));
            case 4: return "p" + upTo(4);
            case 5: return "P" + rod;
            case 6: return "s" + (random.nextBoolean() ? "<" : ">") + upTo(9);
            case 7: return "!" + rod + upTo(random.nextBoolean() ? 1 : 4);
            default: return ".";
        }
    }

    /** An evening that mostly can be, so that the ball comes about. */
    private String text() {
        StringBuilder text = new StringBuilder();
        Naive trial = naive.copy();
        int length = upTo(7);
        boolean isBroken = upTo(2) == 0;
        for (int tries = 0; tries < 60 && length > 0; tries++) {
            String act = piece();
            if (trial.ball != null && upTo(1) == 0 && !trial.held.contains(trial.ball[0])) act = (char) ('a' + trial.ball[0]) + "(";
            if (trial.why(act) != 0) {
                if (!isBroken || tries < 30) continue;
                text.append(act);
                break;
            }
            trial.act(act);
            text.append(act);
            length--;
        }
        if (upTo(6) == 0) text.insert(upTo(text.length()), PIECES[upTo(PIECES.length - 1)]);
        if (upTo(8) == 0 && text.length() > 0) text.deleteCharAt(upTo(text.length() - 1));
        return text.toString();
    }

    private int evening() {
        int calls = 0;
        if (upTo(3) > 0) {
            is("wipe()", table.wipe(), naive.wipe());
            calls++;
        }
        String text = text();
        for (char sign : text.toCharArray()) {
            is("say(" + sign + ")", table.say(sign), naive.say(sign));
            calls++;
        }
        if (upTo(20) == 0) is("say", table.say(32 + 95 * upTo(1)), -2);
        is(naive.pad + ": fault()", table.fault(), naive.fault());
        for (int what = 0; what < 2; what++) is(naive.pad + ": judge(" + what + ")", table.judge(what), naive.judge(what));
        for (int what = 0; what < 7; what++) is(naive.pad + ": then(" + what + ")", table.then(what), naive.then(what));
        int rod = near(0, 7), what = near(0, 1);
        is(naive.pad + ": behind(" + rod + ", " + what + ")", table.behind(rod, what), naive.behind(rod, what));
        if (upTo(2) > 0) is(naive.pad + ": done()", table.done(), naive.done());
        return calls + 12;
    }

    private int shots() {
        for (int d = -10; d <= 10; d++) is("ends(" + d + ")", table.ends(d), naive.ends(d));
        is("goesIn()", table.goesIn(), naive.goesIn());
        return 22;
    }

    private int paths() {
        for (int rod = 0; rod < 8; rod++) {
            int man = near(0, Naive.men(rod) - 1), what = near(0, 1);
            is("path(" + rod + ", " + man + ", " + what + ")", table.path(rod, man, what), naive.path(rod, man, what));
        }
        return 8;
    }

    private int standing() {
        for (int what = 0; what < 3; what++) is("stand(" + what + ")", table.stand(what), naive.stand(what));
        return 3;
    }

    private int habits() {
        int p = 1 + upTo(3), bits = upTo(15);
        if (upTo(3) == 0) is("forget()", table.forget(), naive.forget());
        for (int i = 0; i < 3; i++) {
            int shot = near(0, 60);
            boolean side = shot >= 0 && (bits >> shot % p & 1) == 1 ^ upTo(15) == 0;
            is("seen(" + shot + ", " + side + ")", table.seen(shot, side), naive.seen(shot, side));
        }
        if (upTo(2) == 0) images();
        int i = near(0, upTo(1) == 0 ? 29 : 3);
        is("fits(-1)", table.fits(-1), naive.fits(-1));
        is("fits(" + i + ")", table.fits(i), naive.fits(i));
        for (int what = 0; what < 2; what++) is("ask(" + what + ")", table.ask(what), naive.ask(what));
        return 9;
    }

    private int years() {
        int seed = near(0, 9999), m = near(1, 99);
        for (int what = 0; what < 3; what++) {
            is("year(" + seed + ", " + m + ", " + what + ")", table.year(seed, m, what), naive.year(seed, m, what));
        }
        return 3;
    }

    private int images() {
        int n = near(0, 1);
        if (random.nextBoolean()) is("image(" + n + ")", table.image(n), naive.image(n));
        else is("restore(" + n + ")", table.restore(n), naive.restore(n));
        return 1;
    }

    /** The calls that know nothing of the table, over all their numbers. */
    private void allNumbers() {
        for (int all = 0; all < 11 * 11 * 11 * 11; all++) {
            int a = all % 11, b = all / 11 % 11, c = all / 121 % 11, d = all / 1331;
            for (int k = 0; k < 4; k++) {
                due.is("mix(" + a + ", " + b + ", " + c + ", " + d + ", " + k / 2 + ", " + k % 2 + ")",
                    table.mix(a, b, c, d, k / 2, k % 2), Naive.mix(a, b, c, d, k / 2, k % 2));
            }
        }
        for (int n = -1; n <= 11; n++) {
            for (int i = 0; i < 3000; i++) {
                int row = 0;
                for (int k = 0; k < n && k < 9; k++) row = 10 * row + upTo(i % 7 == 0 ? 4 : 3);
                if (i % 50 == 0) row = row * 10;
                due.is("hands(" + row + ", " + n + ")", table.hands(row, n), Naive.hands(row, n));
            }
        }
        for (int a = -1; a <= 11; a++) {
            for (int b = -1; b <= 11; b++) {
                for (int t = -1; t <= 11; t++) {
                    for (int part = -1; part < 3; part++) {
                        due.is("race(" + a + ", " + b + ", " + t + ", " + part + ")", table.race(a, b, t, part), Naive.race(a, b, t, part));
                    }
                }
                for (int n = -1; n <= 17; n++) {
                    for (int k = -1; k <= n + 1; k++) {
                        for (int part = 0; part < 2; part++) {
                            due.is("truly(" + a + ", " + b + ", " + n + ", " + k + ", " + part + ")",
                                table.truly(a, b, n, k, part), Naive.truly(a, b, n, k, part));
                        }
                    }
                }
            }
        }
    }
}
