import java.math.BigInteger;
import java.util.ArrayDeque;
import java.util.ArrayList;
import java.util.Arrays;
import java.util.HashMap;
import java.util.HashSet;
import java.util.List;
import java.util.Map;
import java.util.Set;
import java.util.TreeSet;

/** The document once more, by other ways than the class goes: by trying all, by walking inch by inch, by texts. */
final class Naive {
    static final List<Integer> FIRST = List.of(0, 1, 3, 5), SECOND = List.of(7, 6, 4, 2);
    static final int[] COUNT = {1, 2, 5, 3}, APART = {0, 16, 8, 12}, FARTHEST = {40, 24, 8, 16};

    int[] slide = new int[8];
    TreeSet<Integer> held = new TreeSet<>();
    int[] ball = null; // rod, man
    int[] goals = {0, 0};
    int tenth = 0;
    List<int[]> sights = new ArrayList<>();
    StringBuilder pad = new StringBuilder();
    Naive[] images = new Naive[2];

    Naive() {
        for (int rod = 0; rod < 8; rod++) slide[rod] = farthest(rod) / 2;
    }

    Naive copy() {
        Naive other = new Naive();
        other.slide = slide.clone();
        other.held = new TreeSet<>(held);
        other.ball = ball == null ? null : ball.clone();
        other.goals = goals.clone();
        other.tenth = tenth;
        other.sights = new ArrayList<>(sights);
        return other;
    }

    static boolean rodIs(int rod) { return FIRST.contains(rod) || SECOND.contains(rod); }
    static int side(int rod) { return FIRST.contains(rod) ? 0 : 1; }
    static int sort(int rod) { return side(rod) == 0 ? FIRST.indexOf(rod) : SECOND.indexOf(rod); }
    static int men(int rod) { return COUNT[sort(rod)]; }
    static int farthest(int rod) { return FARTHEST[sort(rod)]; }
    static boolean manIs(int rod, int man) { return rodIs(rod) && man >= 0 && man < men(rod); }
    int where(int rod, int man) { return slide[rod] + man * APART[sort(rod)]; }
    int holds(int side) { return (int) held.stream().filter(r -> side(r) == side).count(); }

    int catcher(int rod, int x) {
        for (int man = 0; man < men(rod); man++) {
            int w = where(rod, man);
            if (x == w || x == w - 1 || x == w + 1) return man;
        }
        return -1;
    }

    /** Rod and man, or {8} for a goal. */
    int[] shot(int d) {
        int side = side(ball[0]), rod = ball[0], x = where(ball[0], ball[1]), step = d < 0 ? -1 : 1;
        while (true) {
            rod += side == 0 ? 1 : -1;
            for (int inch = 0; inch < Math.abs(d); inch++) {
                if (x + step < 0 || x + step > 40) step = -step;
                x += step;
            }
            if (rod < 0 || rod > 7) break;
            if (side(rod) != side && catcher(rod, x) >= 0) return new int[] {rod, catcher(rod, x)};
        }
        return x >= 15 && x <= 25 ? new int[] {8} : new int[] {side == 0 ? 7 : 0, 0};
    }

    int in() {
        int bits = 0;
        for (int d = -9; d <= 9; d++) if (shot(d)[0] == 8) bits += 1 << (d + 9);
        return bits;
    }

    /** Rod and man who get it, or null. */
    int[] over(int rod, int man, int to) {
        if (rod == to || side(rod) != side(to)) return null;
        int x = where(rod, man), best = -1;
        for (int off = 0; off <= 3 && best < 0; off++) {
            for (int m = men(to) - 1; m >= 0; m--) if (Math.abs(where(to, m) - x) == off) best = m;
        }
        if (best < 0) return null;
        int[] got = {to, best};
        int low = Math.min(rod, to), high = Math.max(rod, to);
        for (int i = low + 1; i < high; i++) {
            int r = rod < to ? i : low + high - i;
            if (side(r) != side(rod) && catcher(r, x) >= 0) return new int[] {r, catcher(r, x)};
        }
        return got;
    }

    // ---- evenings

    static final String ACT = "[a-h]([()]|[<>][1-9])|p[0-4]|P[a-h]|s[<>][0-9]|![a-h][0-4]|\\.";
    static final String BEGUN = "[a-h]?|[a-h][<>]|p|P|s|s[<>]|!|![a-h]";

    int fault() {
        for (int n = 1; n <= pad.length(); n++) {
            if (!pad.substring(0, n).matches("(" + ACT + ")*(" + BEGUN + ")")) return n - 1;
        }
        return pad.toString().matches("(" + ACT + ")*") ? -6 : pad.length();
    }

    List<String> acts() {
        List<String> all = new ArrayList<>();
        java.util.regex.Matcher m = java.util.regex.Pattern.compile(ACT).matcher(pad);
        while (m.find()) all.add(m.group());
        return all;
    }

    int why(String act) {
        Set<Integer> reasons = new TreeSet<>();
        char c = act.charAt(0);
        if (goals[0] == 10 || goals[1] == 10) reasons.add(1);
        boolean plays = c == 'p' || c == 'P' || c == 's';
        if (plays && ball == null || c == '!' && ball != null) reasons.add(2);
        if (plays && ball != null && !held.contains(ball[0])) reasons.add(3);
        if (c <= 'h' && c >= 'a') {
            int rod = c - 'a', by = act.length() > 2 ? act.charAt(2) - '0' : 0;
            char how = act.charAt(1);
            if ((how == '(') == held.contains(rod)) reasons.add(3);
            if (how == '(' && holds(side(rod)) >= 2) reasons.add(4);
            int to = slide[rod] + (how == '<' ? -by : how == '>' ? by : 0);
            if (to < 0 || to > farthest(rod)) reasons.add(5);
        }
        if (c == 'p' && ball != null) {
            int man = act.charAt(1) - '0';
            if (!manIs(ball[0], man) || man != ball[1] + 1 && man != ball[1] - 1) reasons.add(6);
        }
        if (c == '!' && !manIs(act.charAt(1) - 'a', act.charAt(2) - '0')) reasons.add(6);
        if (c == 'P' && ball != null && over(ball[0], ball[1], act.charAt(1) - 'a') == null) reasons.add(6);
        if (c == '.' && tenth == 999) reasons.add(7);
        return reasons.isEmpty() ? 0 : reasons.iterator().next();
    }

    /** Whether it is a goal. */
    boolean act(String act) {
        char c = act.charAt(0);
        if (c == '.') tenth++;
        else if (c == 'p') ball[1] = act.charAt(1) - '0';
        else if (c == 'P') ball = over(ball[0], ball[1], act.charAt(1) - 'a');
        else if (c == '!') ball = new int[] {act.charAt(1) - 'a', act.charAt(2) - '0'};
        else if (c == 's') {
            int[] end = shot((act.charAt(2) - '0') * (act.charAt(1) == '<' ? -1 : 1));
            if (end[0] == 8) {
                goals[side(ball[0])]++;
                ball = null;
                return true;
            }
            ball = end;
        } else {
            int rod = c - 'a';
            switch (act.charAt(1)) {
                case '(': held.add(rod); break;
                case ')': held.remove(rod); break;
                case '<': slide[rod] -= act.charAt(2) - '0'; break;
                default: slide[rod] += act.charAt(2) - '0';
            }
        }
        return false;
    }

    /** First act that can not be, why, first goal, acts; the copy behind them. */
    Naive behind;
    int[] play() {
        int[] told = {-6, -6, -6, 0};
        behind = copy();
        for (String act : acts()) {
            int why = behind.why(act);
            if (why != 0) {
                told[0] = told[3];
                told[1] = why;
                return told;
            }
            if (behind.act(act) && told[2] == -6) told[2] = told[3];
            told[3]++;
        }
        return told;
    }

    boolean wrongPad() { return fault() != -6 || play()[0] != -6; }

    // ---- the calls

    int slide(int rod, int v) {
        if (!rodIs(rod)) return -1;
        if (v < 0 || v > farthest(rod)) return -2;
        int old = slide[rod];
        slide[rod] = v;
        return old;
    }

    int hold(int rod, boolean is) {
        if (!rodIs(rod)) return -1;
        TreeSet<Integer> next = new TreeSet<>(held);
        if (is) next.add(rod); else next.remove(rod);
        if (next.stream().filter(r -> side(r) == side(rod)).count() > 2) return -4;
        held = next;
        return holds(side(rod));
    }

    int ball(int rod, int man) {
        if (rod != -1 && !manIs(rod, man)) return -1;
        ball = rod == -1 ? null : new int[] {rod, man};
        return 1;
    }

    int goals(int side, int v) {
        if (side != 0 && side != 1) return -1;
        if (v < 0 || v > 10) return -2;
        int old = goals[side];
        goals[side] = v;
        return old;
    }

    int say(int sign) {
        if (sign < 33 || sign > 126) return -2;
        if (pad.length() == 60) return -4;
        return pad.append((char) sign).length();
    }

    int wipe() {
        int n = pad.length();
        pad.setLength(0);
        return n;
    }

    int judge(int what) {
        if (what != 0 && what != 1) return -2;
        return fault() != -6 ? -5 : play()[what];
    }

    int done() {
        if (wrongPad()) return -5;
        int n = play()[3];
        slide = behind.slide;
        held = behind.held;
        ball = behind.ball;
        goals = behind.goals;
        tenth = behind.tenth;
        wipe();
        return n;
    }

    int behind(int rod, int what) {
        if (!rodIs(rod)) return -1;
        if (what != 0 && what != 1) return -2;
        if (wrongPad()) return -5;
        return what == 0 ? behind.slide[rod] : behind.held.contains(rod) ? 1 : 0;
    }

    int then(int what) {
        if (what < 0 || what > 6) return -2;
        if (wrongPad()) return -5;
        int goal = play()[2];
        Naive b = behind;
        int[] all = {b.ball == null ? -6 : b.ball[0], b.ball == null ? -6 : b.ball[1],
            b.ball == null ? -6 : b.where(b.ball[0], b.ball[1]), b.goals[0], b.goals[1], b.tenth, goal};
        return all[what];
    }

    int ends(int d) {
        if (d < -9 || d > 9) return -2;
        return ball == null ? -3 : shot(d)[0];
    }

    int goesIn() { return ball == null ? -3 : in(); }

    List<int[]> nexts(int rod, int man) {
        List<int[]> all = new ArrayList<>();
        for (int m = 0; m < men(rod); m++) if (m == man - 1 || m == man + 1) all.add(new int[] {rod, m});
        for (int to = 0; to < 8; to++) {
            int[] got = over(rod, man, to);
            if (got != null && got[0] == to) all.add(got);
        }
        return all;
    }

    /** Walks forward from a man: the passes to every man. */
    Map<Integer, Integer> passes(int rod, int man) {
        Map<Integer, Integer> far = new HashMap<>();
        ArrayDeque<int[]> open = new ArrayDeque<>();
        far.put(10 * rod + man, 0);
        open.add(new int[] {rod, man});
        while (!open.isEmpty()) {
            int[] who = open.remove();
            for (int[] next : nexts(who[0], who[1])) {
                if (far.putIfAbsent(10 * next[0] + next[1], far.get(10 * who[0] + who[1]) + 1) == null) open.add(next);
            }
        }
        return far;
    }

    int path(int rod, int man, int what) {
        if (!manIs(rod, man)) return -1;
        if (what != 0 && what != 1) return -2;
        if (ball == null) return -3;
        int n = passes(ball[0], ball[1]).getOrDefault(10 * rod + man, -6);
        if (what == 0 || n <= 0) return what == 0 ? n : -6;
        return nexts(ball[0], ball[1]).stream()
            .filter(w -> passes(w[0], w[1]).getOrDefault(10 * rod + man, -6) == n - 1)
            .mapToInt(w -> 10 * w[0] + w[1]).min().getAsInt();
    }

    int stand(int what) {
        if (what != 0 && what != 1) return -2;
        if (ball == null) return -3;
        boolean first = side(ball[0]) == 0;
        int best = 99, slides = 0;
        Naive trial = copy();
        for (int k = 0; k <= 40; k++) {
            for (int b = 0; b <= 24; b++) {
                trial.slide[first ? 7 : 0] = k;
                trial.slide[first ? 6 : 1] = b;
                int n = Integer.bitCount(trial.in());
                if (n < best) {
                    best = n;
                    slides = 100 * k + b;
                }
            }
        }
        return what == 0 ? best : slides;
    }

    static long told(BigInteger upper, BigInteger lower, int part) {
        BigInteger g = upper.gcd(lower);
        return (part == 0 ? upper : lower).divide(g).longValueExact();
    }

    static boolean tenths(int... all) { return Arrays.stream(all).allMatch(v -> v >= 0 && v <= 10); }

    static final long LOST = FourRods.LOST;

    /** Tries every chance u of v with v up to 40, where the best ones must lie: a mixture's lower number is 20 at the most. */
    static long mix(int a, int b, int c, int d, int what, int part) {
        if (!tenths(a, b, c, d) || what < 0 || what > 1 || part < 0 || part > 1) return LOST - 2;
        long bestUp = -1, bestLow = 1, atUp = 0, atLow = 1;
        int[][] order = new int[2 + 40 * 41][];
        int n = 0;
        order[n++] = new int[] {1, 1};
        order[n++] = new int[] {0, 1};
        for (int v = 1; v <= 40; v++) for (int u = 1; u < v; u++) order[n++] = new int[] {u, v};
        for (int i = 0; i < n; i++) {
            long u = order[i][0], v = order[i][1];
            long up = Math.min(u * a + (v - u) * c, u * b + (v - u) * d), low = 10 * v;
            if (up * bestLow > bestUp * low) {
                bestUp = up;
                bestLow = low;
                atUp = u;
                atLow = v;
            }
        }
        return what == 0 ? told(BigInteger.valueOf(bestUp), BigInteger.valueOf(bestLow), part)
            : told(BigInteger.valueOf(atUp), BigInteger.valueOf(atLow), part);
    }

    static int hands(int row, int n) {
        if (n < 1 || n > 9 || row < 0 || String.valueOf(row).length() > n && row != 0) return -2;
        String digits = String.format("%0" + n + "d", row);
        if (!digits.matches("[0-3]+")) return -2;
        Map<Set<Integer>, Integer> cost = new HashMap<>();
        cost.put(Set.of(), 0);
        for (char c : digits.toCharArray()) {
            int rod = c - '0';
            Map<Set<Integer>, Integer> next = new HashMap<>();
            for (Map.Entry<Set<Integer>, Integer> e : cost.entrySet()) {
                if (e.getKey().contains(rod)) {
                    next.merge(e.getKey(), e.getValue(), Math::min);
                    continue;
                }
                next.merge(Set.of(rod), e.getValue() + 1, Math::min);
                for (int kept : e.getKey()) next.merge(new HashSet<>(List.of(rod, kept)), e.getValue() + 1, Math::min);
            }
            cost = next;
        }
        return cost.values().stream().min(Integer::compare).get();
    }

    static long truly(int a, int b, int n, int k, int part) {
        if (!tenths(a, b) || n < 0 || n > 16 || k < 0 || k > n || part < 0 || part > 1) return LOST - 2;
        BigInteger one = big(a).pow(k).multiply(big(10 - a).pow(n - k));
        BigInteger other = big(b).pow(k).multiply(big(10 - b).pow(n - k));
        if (one.add(other).signum() == 0) return part;
        return told(one, one.add(other), part);
    }

    static long race(int a, int b, int t, int part) {
        if (a < 0 || a > 9 || b < 0 || b > 9 || !tenths(t) || part < 0 || part > 1) return LOST - 2;
        if (a + b == 0) return LOST - 3;
        int rest = 19 - a - b;
        return told(wins(a, b, t, rest), big(10).pow(rest), part);
    }

    private static BigInteger wins(int a, int b, int t, int rest) {
        BigInteger[][] w = new BigInteger[11][11];
        for (int x = 10; x >= a; x--) {
            for (int y = 10; y >= b; y--) {
                int left = rest - (x - a) - (y - b);
                if (x == 10) w[x][y] = left < 0 ? BigInteger.ZERO : big(10).pow(left);
                else if (y == 10) w[x][y] = BigInteger.ZERO;
                else w[x][y] = big(t).multiply(w[x + 1][y]).add(big(10 - t).multiply(w[x][y + 1]));
            }
        }
        return w[a][b];
    }

    private static BigInteger big(int v) { return BigInteger.valueOf(v); }

    int seen(int shot, boolean second) {
        if (shot < 0 || shot > 60) return -2;
        if (sights.size() == 8) return -4;
        sights.add(new int[] {shot, second ? 1 : 0});
        return sights.size();
    }

    int forget() {
        int n = sights.size();
        sights.clear();
        return n;
    }

    /** The sides of sixty-one shots by each row that fits, by the row's number. */
    Map<Integer, String> rows() {
        Map<Integer, String> all = new java.util.TreeMap<>();
        for (int p = 1; p <= 4; p++) {
            for (int bits = 0; bits < Math.pow(2, p); bits++) {
                String row = new StringBuilder(String.format("%" + p + "s", Integer.toBinaryString(bits)).replace(' ', '0'))
                    .reverse().toString();
                String shots = row.repeat(61).substring(0, 61);
                if (sights.stream().allMatch(s -> shots.charAt(s[0]) - '0' == s[1])) all.put(16 * p + bits, shots);
            }
        }
        return all;
    }

    int fits(int i) {
        List<Integer> all = new ArrayList<>(rows().keySet());
        if (i == -1) return all.size();
        return i < 0 || i >= all.size() ? -6 : all.get(i);
    }

    int ask(int what) {
        if (what != 0 && what != 1) return -2;
        Map<Integer, String> all = rows();
        if (all.isEmpty()) return -6;
        int best = -1, fewest = 99;
        for (int shot = 60; shot >= 0; shot--) {
            int at = shot;
            int ones = (int) all.values().stream().filter(s -> s.charAt(at) == '1').count();
            int most = Math.max(ones, all.size() - ones);
            if (most <= fewest) {
                fewest = most;
                best = shot;
            }
        }
        return what == 0 ? best : fewest;
    }

    int year(int seed, int m, int what) {
        if (seed < 0 || seed > 9999 || m < 1 || m > 99 || what < 0 || what > 2) return -2;
        Naive drawn = copy();
        long x = seed;
        for (int i = 0; i < m; i++) {
            x = (75 * x + 74) % 65537;
            String act = drawn.drawnAct((int) (x % 8), (int) (x / 8 % 8), (int) (x / 64));
            if (drawn.why(act) == 0) drawn.act(act);
        }
        return what == 0 ? drawn.goals[0] + drawn.goals[1] : what == 1 ? drawn.tenth : drawn.ball == null ? -6 : drawn.ball[0];
    }

    private String drawnAct(int rod, int kind, int z) {
        char letter = (char) ('a' + rod);
        int d = z % 19 - 9;
        switch (kind) {
            case 0: return letter + "(";
            case 1: return letter + ")";
            case 2: return letter + "<" + (1 + z % 9);
            case 3: return letter + ">" + (1 + z % 9);
            case 4: return "p" + z % 5;
            case 5: return "P" + letter;
            case 6: return "s" + (d < 0 ? "<" : ">") + Math.abs(d);
            default: return ball == null ? "!" + letter + z % 5 : ".";
        }
    }

    int image(int n) {
        if (n != 0 && n != 1) return -2;
        images[n] = copy();
        return 1;
    }

    int restore(int n) {
        if (n != 0 && n != 1) return -2;
        if (images[n] == null) return -3;
        Naive kept = images[n].copy();
        slide = kept.slide;
        held = kept.held;
        ball = kept.ball;
        goals = kept.goals;
        tenth = kept.tenth;
        sights = kept.sights;
        return 1;
    }

    int told(int what) {
        Map<Integer, Integer> all = new HashMap<>();
        all.put(0, pad.length());
        all.put(1, held.stream().mapToInt(r -> 1 << r).sum());
        all.put(2, ball == null ? -6 : ball[0]);
        all.put(3, ball == null ? -6 : ball[1]);
        all.put(4, tenth);
        all.put(5, sights.size());
        all.put(10, goals[0]);
        all.put(11, goals[1]);
        for (int rod = 0; rod < 8; rod++) {
            all.put(20 + rod, slide[rod]);
            for (int man = 0; man < men(rod); man++) all.put(100 + 10 * rod + man, where(rod, man));
        }
        return all.getOrDefault(what, -2);
    }
}
