import java.util.ArrayList;
import java.util.LinkedHashMap;
import java.util.List;
import java.util.Map;
import java.util.function.Supplier;
import java.util.function.ToLongFunction;

/** Every refusal of every call, which of several comes first, and that a refused call changes nothing. */
public final class RefusalsTest {
    private static final int NONE = Made.NONE, UNKNOWN = Made.UNKNOWN, OUTSIDE = Made.OUTSIDE, STATE = Made.STATE;
    private static final int FULL = Made.FULL, NO = Made.NO;
    private static final long LOST = Made.LOST;

    /** A call, and the refusal that is due to it. */
    private record Refused(String call, ToLongFunction<FourRods> asked, long due) { }

    public static void main(String[] args) throws Exception {
        Sentences document = new Sentences();
        document.says("Calls that are refused answer, the first of these that fits", RefusalsTest::firstThatFits);
        document.says("They change nothing.", RefusalsTest::changeNothing);
        document.says("BEHIND, likewise, not being DONE", RefusalsTest::askingChangesNothing);
        document.finish();
    }

    private static void firstThatFits(Due due) {
        FourRods x = fullOfAll();
        Due.write(x, ".".repeat(59) + "a");
        due.is("slide: UNKNOWN, then OUTSIDE", x.slide(8, 99), UNKNOWN);
        due.is("slide: UNKNOWN, then OUTSIDE", x.slide(-1, -1), UNKNOWN);
        due.is("hold: UNKNOWN, then FULL", x.hold(8, true), UNKNOWN);
        due.is("goals: UNKNOWN, then OUTSIDE", x.goals(2, 11), UNKNOWN);
        due.is("goals: UNKNOWN, then OUTSIDE", x.goals(-1, -1), UNKNOWN);
        due.is("say: OUTSIDE, then FULL", x.say(32), OUTSIDE);
        due.is("say: OUTSIDE, then FULL", x.say(127), OUTSIDE);
        due.is("judge: OUTSIDE, then NO", x.judge(2), OUTSIDE);
        due.is("judge: OUTSIDE, then NO", x.judge(-1), OUTSIDE);
        due.is("behind: UNKNOWN, then OUTSIDE and NO", x.behind(8, 2), UNKNOWN);
        due.is("behind: UNKNOWN, then NO", x.behind(-1, 0), UNKNOWN);
        due.is("behind: OUTSIDE, then NO", x.behind(0, 2), OUTSIDE);
        due.is("behind: OUTSIDE, then NO", x.behind(0, -1), OUTSIDE);
        due.is("then: OUTSIDE, then NO", x.then(7), OUTSIDE);
        due.is("then: OUTSIDE, then NO", x.then(-1), OUTSIDE);
        due.is("seen: OUTSIDE, then FULL", x.seen(61, true), OUTSIDE);
        due.is("seen: OUTSIDE, then FULL", x.seen(-1, true), OUTSIDE);
        x.ball(-1, 0);
        due.is("ends: OUTSIDE, then STATE", x.ends(10), OUTSIDE);
        due.is("ends: OUTSIDE, then STATE", x.ends(-10), OUTSIDE);
        due.is("path: UNKNOWN, then OUTSIDE and STATE", x.path(8, 0, 2), UNKNOWN);
        due.is("path: UNKNOWN, then STATE", x.path(0, 1, 0), UNKNOWN);
        due.is("path: OUTSIDE, then STATE", x.path(0, 0, 2), OUTSIDE);
        due.is("path: OUTSIDE, then STATE", x.path(0, 0, -1), OUTSIDE);
        due.is("stand: OUTSIDE, then STATE", x.stand(2), OUTSIDE);
        due.is("stand: OUTSIDE, then STATE", x.stand(-1), OUTSIDE);
        due.is("race: OUTSIDE, then STATE", x.race(0, 0, 11, 0), LOST + OUTSIDE);
        due.is("race: OUTSIDE, then STATE", x.race(0, 0, 5, 2), LOST + OUTSIDE);
        due.is("restore: OUTSIDE, then STATE", x.restore(2), OUTSIDE);
        due.is("restore: STATE", x.restore(1), STATE);
        x.seen(0, true);
        due.is("ask: OUTSIDE, then NONE", x.ask(2), OUTSIDE);
    }

    /** A table where whatever can be full is full. */
    private static FourRods fullOfAll() {
        FourRods x = Made.played(5, 1, 0, 3, 2, 11, 4, 7, 6, 1);
        x.image(0);
        x.hold(3, true);
        x.hold(7, true);
        x.hold(2, true);
        x.goals(0, 9);
        x.goals(1, 4);
        Due.write(x, "..f<1");
        x.done();
        for (int i = 0; i < 8; i++) x.seen(7 * i, i % 2 == 0);
        Due.write(x, ".".repeat(58) + "d)");
        return x;
    }

    private static FourRods faulty() {
        FourRods x = Made.said("a(a<");
        x.slide(2, 1);
        x.seen(4, true);
        x.seen(4, false);
        return x;
    }

    private static FourRods broken() {
        FourRods x = Made.played(2, 2);
        Due.write(x, "s<9.a)");
        return x;
    }

    private static void changeNothing(Due due) {
        refusedAll(due, "new", FourRods::new, always());
        refusedAll(due, "new", FourRods::new, whileDead());
        refusedAll(due, "full", RefusalsTest::fullOfAll, always());
        refusedAll(due, "full", RefusalsTest::fullOfAll, whileFull());
        refusedAll(due, "faulty", RefusalsTest::faulty, always());
        refusedAll(due, "faulty", RefusalsTest::faulty, whileDead());
        refusedAll(due, "faulty", RefusalsTest::faulty, whileNotDone(true));
        refusedAll(due, "faulty", RefusalsTest::faulty, List.of(
            new Refused("ask(0)", x -> x.ask(0), NONE), new Refused("ask(1)", x -> x.ask(1), NONE),
            new Refused("fits(0)", x -> x.fits(0), NONE)));
        refusedAll(due, "broken", RefusalsTest::broken, always());
        refusedAll(due, "broken", RefusalsTest::broken, whileNotDone(false));
    }

    /** Each refused call on an object of its own, beside one that was not asked. */
    private static void refusedAll(Due due, String about, Supplier<FourRods> made, List<Refused> all) {
        String untouched = State.ofAll(made.get());
        for (Refused one : all) {
            FourRods x = made.get();
            for (int times = 0; times < 2; times++) due.is(about + ": " + one.call(), one.asked().applyAsLong(x), one.due());
            due.same(about + ", after " + one.call() + ": all that is told", State.ofAll(x), untouched);
        }
        FourRods x = made.get();
        for (Refused one : all) one.asked().applyAsLong(x);
        due.same(about + ", after all of them: what is told", State.of(x), State.of(made.get()));
    }

    private static List<Refused> always() {
        List<Refused> all = new ArrayList<>();
        for (int rod : new int[] {-2, 8, Integer.MIN_VALUE, Integer.MAX_VALUE}) {
            all.add(new Refused("slide(" + rod + ", 0)", x -> x.slide(rod, 0), UNKNOWN));
            all.add(new Refused("hold(" + rod + ", true)", x -> x.hold(rod, true), UNKNOWN));
            all.add(new Refused("hold(" + rod + ", false)", x -> x.hold(rod, false), UNKNOWN));
            all.add(new Refused("ball(" + rod + ", 0)", x -> x.ball(rod, 0), UNKNOWN));
            all.add(new Refused("behind(" + rod + ", 0)", x -> x.behind(rod, 0), UNKNOWN));
            all.add(new Refused("path(" + rod + ", 0, 0)", x -> x.path(rod, 0, 0), UNKNOWN));
        }
        for (int rod = 0; rod < 8; rod++) {
            int own = rod;
            all.add(new Refused("slide(" + rod + ", -1)", x -> x.slide(own, -1), OUTSIDE));
            all.add(new Refused("slide(" + rod + ", too far)", x -> x.slide(own, Made.LAST_SLIDE[own] + 1), OUTSIDE));
            all.add(new Refused("ball(" + rod + ", -1)", x -> x.ball(own, -1), UNKNOWN));
            all.add(new Refused("ball(" + rod + ", a man more)", x -> x.ball(own, Made.MEN[own]), UNKNOWN));
            all.add(new Refused("path(" + rod + ", a man more, 0)", x -> x.path(own, Made.MEN[own], 0), UNKNOWN));
        }
        for (int wrong : new int[] {-1, 2, Integer.MIN_VALUE, Integer.MAX_VALUE}) {
            all.add(new Refused("goals(" + wrong + ", 1)", x -> x.goals(wrong, 1), UNKNOWN));
            all.add(new Refused("judge(" + wrong + ")", x -> x.judge(wrong), OUTSIDE));
            all.add(new Refused("behind(0, " + wrong + ")", x -> x.behind(0, wrong), OUTSIDE));
            all.add(new Refused("path(0, 0, " + wrong + ")", x -> x.path(0, 0, wrong), OUTSIDE));
            all.add(new Refused("stand(" + wrong + ")", x -> x.stand(wrong), OUTSIDE));
            all.add(new Refused("mix by what " + wrong, x -> x.mix(1, 2, 3, 4, wrong, 0), LOST + OUTSIDE));
            all.add(new Refused("mix by part " + wrong, x -> x.mix(1, 2, 3, 4, 0, wrong), LOST + OUTSIDE));
            all.add(new Refused("truly by part " + wrong, x -> x.truly(1, 2, 3, 2, wrong), LOST + OUTSIDE));
            all.add(new Refused("race by part " + wrong, x -> x.race(1, 2, 3, wrong), LOST + OUTSIDE));
            all.add(new Refused("ask(" + wrong + ")", x -> x.ask(wrong), OUTSIDE));
            all.add(new Refused("image(" + wrong + ")", x -> x.image(wrong), OUTSIDE));
            all.add(new Refused("restore(" + wrong + ")", x -> x.restore(wrong), OUTSIDE));
        }
        for (int wrong : new int[] {-1, 11}) {
            all.add(new Refused("goals(0, " + wrong + ")", x -> x.goals(0, wrong), OUTSIDE));
            all.add(new Refused("goals(1, " + wrong + ")", x -> x.goals(1, wrong), OUTSIDE));
            all.add(new Refused("mix of a " + wrong, x -> x.mix(wrong, 2, 3, 4, 0, 0), LOST + OUTSIDE));
            all.add(new Refused("truly of a " + wrong, x -> x.truly(wrong, 2, 3, 2, 0), LOST + OUTSIDE));
            all.add(new Refused("race by t " + wrong, x -> x.race(1, 2, wrong, 0), LOST + OUTSIDE));
        }
        for (int wrong : new int[] {32, 127, 0, -1}) all.add(new Refused("say(" + wrong + ")", x -> x.say(wrong), OUTSIDE));
        for (int wrong : new int[] {-1, 7}) all.add(new Refused("then(" + wrong + ")", x -> x.then(wrong), OUTSIDE));
        for (int wrong : new int[] {-10, 10}) all.add(new Refused("ends(" + wrong + ")", x -> x.ends(wrong), OUTSIDE));
        for (int wrong : new int[] {0, 10}) all.add(new Refused("hands(0, " + wrong + ")", x -> x.hands(0, wrong), OUTSIDE));
        for (int wrong : new int[] {-1, 4, 10}) all.add(new Refused("hands(" + wrong + ", 1)", x -> x.hands(wrong, 1), OUTSIDE));
        for (int wrong : new int[] {-1, 61}) all.add(new Refused("seen(" + wrong + ", true)", x -> x.seen(wrong, true), OUTSIDE));
        for (int wrong : new int[] {-2, 30}) all.add(new Refused("fits(" + wrong + ")", x -> x.fits(wrong), NONE));
        for (int wrong : new int[] {-1, 10000}) all.add(new Refused("year(" + wrong + ", 1, 0)", x -> x.year(wrong, 1, 0), OUTSIDE));
        for (int wrong : new int[] {0, 100}) all.add(new Refused("year(0, " + wrong + ", 0)", x -> x.year(0, wrong, 0), OUTSIDE));
        for (int wrong : new int[] {-1, 3}) all.add(new Refused("year(0, 1, " + wrong + ")", x -> x.year(0, 1, wrong), OUTSIDE));
        for (int wrong : new int[] {-1, 6, 12, 28, 101, 180}) all.add(new Refused("told(" + wrong + ")", x -> x.told(wrong), OUTSIDE));
        all.add(new Refused("truly of 17 shots", x -> x.truly(1, 2, 17, 2, 0), LOST + OUTSIDE));
        all.add(new Refused("truly of 4 of 3", x -> x.truly(1, 2, 3, 4, 0), LOST + OUTSIDE));
        all.add(new Refused("race from 10", x -> x.race(10, 2, 3, 0), LOST + OUTSIDE));
        all.add(new Refused("race from nothing", x -> x.race(0, 0, 3, 0), LOST + STATE));
        all.add(new Refused("restore(1) of none", x -> x.restore(1), STATE));
        return all;
    }

    private static List<Refused> whileDead() {
        return List.of(new Refused("ends(0)", x -> x.ends(0), STATE), new Refused("goesIn()", x -> x.goesIn(), STATE),
            new Refused("path(0, 0, 0)", x -> x.path(0, 0, 0), STATE), new Refused("path(7, 0, 1)", x -> x.path(7, 0, 1), STATE),
            new Refused("stand(0)", x -> x.stand(0), STATE), new Refused("stand(1)", x -> x.stand(1), STATE),
            new Refused("restore(0) of none", x -> x.restore(0), STATE));
    }

    private static List<Refused> whileFull() {
        return List.of(new Refused("hold(0, true)", x -> x.hold(0, true), FULL), new Refused("hold(6, true)", x -> x.hold(6, true), FULL),
            new Refused("say(46)", x -> x.say(46), FULL), new Refused("seen(1, true)", x -> x.seen(1, true), FULL),
            new Refused("seen(0, true) again", x -> x.seen(0, true), FULL));
    }

    private static List<Refused> whileNotDone(boolean isFault) {
        List<Refused> all = new ArrayList<>();
        all.add(new Refused("done()", x -> x.done(), NO));
        for (int rod = 0; rod < 8; rod++) {
            int own = rod;
            for (int what = 0; what < 2; what++) {
                int one = what;
                all.add(new Refused("behind(" + rod + ", " + what + ")", x -> x.behind(own, one), NO));
            }
        }
        for (int what = 0; what < 7; what++) {
            int one = what;
            all.add(new Refused("then(" + what + ")", x -> x.then(one), NO));
        }
        for (int what = 0; what < 2 && isFault; what++) {
            int one = what;
            all.add(new Refused("judge(" + what + ")", x -> x.judge(one), NO));
        }
        return all;
    }

    /** Calls that only ask, not refused: all is told as before. */
    private static void askingChangesNothing(Due due) {
        Map<String, ToLongFunction<FourRods>> all = new LinkedHashMap<>();
        for (int i = 0; i < 2; i++) {
            int what = i;
            all.put("judge(" + i + ")", x -> x.judge(what));
            all.put("behind(3, " + i + ")", x -> x.behind(3, what));
            all.put("path(3, 4, " + i + ")", x -> x.path(3, 4, what));
            all.put("stand(" + i + ")", x -> x.stand(what));
            all.put("ask(" + i + ")", x -> x.ask(what));
        }
        for (int i = 0; i < 7; i++) {
            int what = i;
            all.put("then(" + i + ")", x -> x.then(what));
        }
        for (int i = -9; i <= 9; i++) {
            int d = i;
            all.put("ends(" + i + ")", x -> x.ends(d));
        }
        all.put("fault()", x -> x.fault());
        all.put("goesIn()", x -> x.goesIn());
        all.put("fits(-1)", x -> x.fits(-1));
        all.put("year(77, 99, 0)", x -> x.year(77, 99, 0));
        all.put("told(100)", x -> x.told(100));
        for (Supplier<FourRods> made : List.<Supplier<FourRods>>of(FourRods::new, RefusalsTest::fullOfAll, RefusalsTest::broken)) {
            String untouched = State.ofAll(made.get());
            for (String call : all.keySet()) {
                FourRods x = made.get();
                all.get(call).applyAsLong(x);
                due.same("after " + call + ": all that is told", State.ofAll(x), untouched);
            }
        }
    }
}
