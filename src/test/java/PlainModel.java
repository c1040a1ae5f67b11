import java.math.BigInteger;
import java.util.ArrayDeque;
import java.util.ArrayList;
import java.util.Deque;
import java.util.HashMap;
import java.util.List;
import java.util.Map;
import java.util.TreeMap;
import java.util.function.IntUnaryOperator;
import java.util.regex.Matcher;
import java.util.regex.Pattern;

/** The document once more, as slow and as plain as it goes, for ModelTest to hold the class against. */
final class PlainModel {
    /** Strings, each kind under the one told. */
    private static class Plain {
        int shows(int l, boolean night) {
            return l;
        }
    }

    private static class Silk extends Plain {
        @Override int shows(int l, boolean night) {
            return night ? 0 : super.shows(l, night);
        }
    }

    private static class Pond extends Plain {
        @Override int shows(int l, boolean night) {
            return Math.min(super.shows(l, night), 10);
        }
    }

    private static class Kite extends Plain {
        @Override int shows(int l, boolean night) {
            return super.shows(l, night) + 5;
        }
    }

    private static class Black extends Silk {
        @Override int shows(int l, boolean night) {
            return (int) Math.ceil(super.shows(l, night) / 2.0);
        }
    }

    private static class Chain extends Kite {
        @Override int shows(int l, boolean night) {
            return Math.min(2 * super.shows(l, night), 99);
        }
    }

    /** Houses, each kind under the one told. */
    private static class House {
        int charges(int s, int d) {
            return (int) Math.ceil(s / 2.0);
        }
    }

    private static class Steep extends House {
        @Override int charges(int s, int d) {
            return super.charges(s, d) + s / 10;
        }
    }

    private static class Lazy extends House {
        @Override int charges(int s, int d) {
            return d % 7 == 0 ? 0 : super.charges(s, d);
        }
    }

    private static class Greedy extends House {
        @Override int charges(int s, int d) {
            return super.charges(s, d) + (s >= 1 ? 3 : 0);
        }
    }

    private static class Bird extends Steep {
        @Override int charges(int s, int d) {
            return Math.min(super.charges(s, d), 25);
        }
    }

    private static class Stamp extends Greedy {
        @Override int charges(int s, int d) {
            int c = super.charges(s, d);
            while (c % 5 != 0) {
                c++;
            }
            return c;
        }
    }

    private static final List<Plain> STRINGS =
        List.of(new Plain(), new Silk(), new Pond(), new Kite(), new Black(), new Chain());
    private static final List<House> HOUSES =
        List.of(new House(), new Steep(), new Lazy(), new Greedy(), new Bird(), new Stamp());

    private static final class State {
        int line = 20;
        int[] house = {0, 0};
        int[] purseHaulStampsHour = {100, 0, 0, 0};
        List<int[]> strings = new ArrayList<>();
        List<int[]> came = new ArrayList<>();
        List<int[]> notes = new ArrayList<>();
        List<int[]> marks = new ArrayList<>();
        Deque<int[]> undo = new ArrayDeque<>();

        State copy() {
            State c = new State();
            c.line = line;
            c.house = house.clone();
            c.purseHaulStampsHour = purseHaulStampsHour.clone();
            c.strings = new ArrayList<>(strings);
            c.came = new ArrayList<>(came);
            c.notes = new ArrayList<>(notes);
            c.marks = new ArrayList<>(marks);
            c.undo = new ArrayDeque<>(undo);
            return c;
        }

        int hour() {
            return purseHaulStampsHour[3];
        }

        int purse() {
            return purseHaulStampsHour[0];
        }

        void remember() {
            undo.addLast(purseHaulStampsHour.clone());
            while (undo.size() > 8) {
                undo.removeFirst();
            }
        }

        int shows(int i, int hour) {
            return PlainModel.shows(strings.get(i)[0], strings.get(i)[1], hour);
        }

        int cost(int shown, int hour) {
            return HOUSES.get(house[0]).charges(shown, hour / 24) + HOUSES.get(house[1]).charges(shown, hour / 24);
        }

        int costOf(int i, int hour) {
            return cost(shows(i, hour), hour);
        }

        int brings(int i) {
            return PlainModel.brings(strings.get(i)[1], line);
        }

        boolean send(int i) {
            int shown = shows(i, hour());
            int cost = cost(shown, hour());
            if (purse() < cost) {
                return false;
            }
            boolean stamp = HOUSES.get(house[1]).charges(shown, hour() / 24) != 0;
            purseHaulStampsHour[0] -= cost;
            purseHaulStampsHour[1] += brings(i);
            purseHaulStampsHour[2] += stamp ? 1 : 0;
            purseHaulStampsHour[3] += 1;
            return true;
        }
    }

    private State s = new State();
    private final State[] images = new State[2];
    private final StringBuilder text = new StringBuilder();
    private BigInteger above = BigInteger.ZERO;
    private BigInteger below = BigInteger.ONE;
    private final int[] refused = new int[3];

    private static int shows(int kind, int l, int hour) {
        int h = hour % 24;
        return STRINGS.get(kind).shows(l, h < 6 || h >= 18);
    }

    private static int brings(int l, int line) {
        return l >= line ? l + 1 - line : 0;
    }

    private static boolean in(int x, int a, int b) {
        return a <= x && x <= b;
    }

    private int bad() {
        refused[0]++;
        return -2;
    }

    private int no() {
        refused[1]++;
        return -3;
    }

    private int full() {
        refused[2]++;
        return -4;
    }

    private boolean there(int i) {
        return in(i, 0, s.strings.size() - 1);
    }

    int province(int line, int n) {
        if (!in(line, 1, 60) || !in(n, 0, 9999)) return bad();
        int were = s.strings.size();
        s = new State();
        s.line = line;
        s.purseHaulStampsHour[0] = n;
        return were;
    }

    int house(int w, int kind) {
        if (!in(w, 0, 1) || !in(kind, 0, 5)) return bad();
        int was = s.house[w];
        s.house[w] = kind;
        s.undo.clear();
        return was;
    }

    int string(int kind, int length) {
        if (!in(kind, 0, 5) || !in(length, 1, 60)) return bad();
        if (s.strings.size() == 5) return full();
        s.strings.add(new int[] {kind, length});
        s.undo.clear();
        return s.strings.size() - 1;
    }

    int type(int c) {
        if (!in(c, 0, 127)) return bad();
        if (text.length() == 150) return full();
        text.append((char) c);
        return text.length();
    }

    int clear() {
        int had = text.length();
        text.setLength(0);
        return had;
    }

    private static final Pattern TOKEN = Pattern.compile("[a-z]+|[0-9]+|[^ ]", Pattern.DOTALL);
    private static final Map<String, int[][]> FORMS = Map.of(
        "province", new int[][] {{1, 60}}, "house", new int[][] {{0, 1}, {0, 5}},
        "string", new int[][] {{0, 5}, {1, 60}}, "purse", new int[][] {{0, 99}},
        "send", new int[][] {{0, 4}}, "wait", new int[][] {{1, 99}});

    int read() {
        Matcher m = TOKEN.matcher(text);
        State t = new State();
        int items = 0;
        while (m.find()) {
            int[][] form = FORMS.get(m.group());
            String word = m.group();
            boolean first = items == 0;
            if (form == null || first != word.equals("province")) return -10 - m.start();
            if (word.equals("string") && t.strings.size() == 5) return -10 - m.start();
            int[] n = new int[form.length];
            for (int k = 0; k < form.length; k++) {
                if (!m.find()) return -10 - text.length();
                if (!m.group().matches("[0-9]{1,2}")) return -10 - m.start();
                n[k] = Integer.parseInt(m.group());
                if (!in(n[k], form[k][0], form[k][1])) return -10 - m.start();
            }
            if (word.equals("send") && (n[0] >= t.strings.size() || !t.send(n[0]))) return -10 - m.start();
            if (word.equals("province")) t.line = n[0];
            if (word.equals("house")) t.house[n[0]] = n[1];
            if (word.equals("string")) t.strings.add(n);
            if (word.equals("purse")) t.purseHaulStampsHour[0] = 100 * n[0];
            if (word.equals("wait")) t.purseHaulStampsHour[3] += n[0];
            if (!m.find()) return -10 - text.length();
            if (!m.group().equals(";")) return -10 - m.start();
            items++;
        }
        if (items == 0) return -10 - text.length();
        s = t;
        return items;
    }

    int sends(int i) {
        if (!there(i)) return bad();
        if (s.hour() == 9999 || s.costOf(i, s.hour()) > s.purse()) return no();
        s.remember();
        s.send(i);
        return s.brings(i);
    }

    int waits(int n) {
        if (!in(n, 1, 99)) return bad();
        s.remember();
        s.purseHaulStampsHour[3] = Math.min(9999, s.hour() + n);
        return s.hour();
    }

    int undo() {
        if (s.undo.isEmpty()) return no();
        s.purseHaulStampsHour = s.undo.removeLast().clone();
        return s.hour();
    }

    int of(int i, int what) {
        if (!there(i) || !in(what, 0, 1)) return bad();
        return s.strings.get(i)[what];
    }

    private int[] figures() {
        int[] p = s.purseHaulStampsHour;
        return new int[] {s.line, s.house[0], s.house[1], p[0], p[1], p[2], p[3]};
    }

    int now(int what) {
        return in(what, 0, 6) ? figures()[what] : bad();
    }

    int asks(int i, int m, int what) {
        if (!there(i) || !in(m, 0, 47) || !in(what, 0, 2)) return bad();
        return new int[] {s.shows(i, s.hour() + m), s.costOf(i, s.hour() + m), s.brings(i)}[what];
    }

    /** Of from .. to the first whose value is least, and that value. */
    private static int[] least(int from, int to, IntUnaryOperator value) {
        TreeMap<Integer, Integer> firstOf = new TreeMap<>();
        for (int k = to; k >= from; k--) {
            firstOf.put(value.applyAsInt(k), k);
        }
        return new int[] {firstOf.firstEntry().getValue(), firstOf.firstKey()};
    }

    int cheapest(int i, int what) {
        if (!there(i) || !in(what, 0, 1)) return bad();
        return least(0, 47, m -> s.costOf(i, s.hour() + m))[what];
    }

    int cuts(int kind, int l, int what) {
        if (!in(kind, 0, 5) || !in(l, 2, 60) || !in(what, 0, 1)) return bad();
        int h = s.hour();
        return least(1, l - 1, a -> s.cost(shows(kind, a, h), h) + s.cost(shows(kind, l - a, h), h))[1 - what];
    }

    private void rows(List<Integer> row, State t, List<List<Integer>> all, List<Integer> hauls) {
        all.add(new ArrayList<>(row));
        hauls.add(t.purseHaulStampsHour[1]);
        for (int i = 0; i < t.strings.size(); i++) {
            State next = t.copy();
            if (!row.contains(i) && next.send(i)) {
                row.add(i);
                rows(row, next, all, hauls);
                row.remove(row.size() - 1);
            }
        }
    }

    int row(int i) {
        if (i < -2) {
            bad();
            return -10;
        }
        List<List<Integer>> all = new ArrayList<>();
        List<Integer> hauls = new ArrayList<>();
        rows(new ArrayList<>(), s.copy(), all, hauls);
        int best = least(0, hauls.size() - 1, k -> -hauls.get(k))[0];
        if (i == -2) return hauls.get(best) - s.purseHaulStampsHour[1];
        if (i == -1) return all.get(best).size();
        return i < all.get(best).size() ? all.get(best).get(i) : -5;
    }

    private int add(List<int[]> list, int... row) {
        if (list.size() == 6) return full();
        list.add(row);
        return list.size();
    }

    int came(int l, int x) {
        return in(l, 1, 60) && in(x, 0, 60) ? add(s.came, l, x) : bad();
    }

    private List<Integer> fitting() {
        List<Integer> lines = new ArrayList<>();
        for (int line = 1; line <= 60; line++) {
            final int at = line;
            if (s.came.stream().allMatch(c -> brings(c[0], at) == c[1])) lines.add(line);
        }
        return lines;
    }

    int lines(int what) {
        if (!in(what, 0, 2)) return bad();
        List<Integer> lines = fitting();
        if (what == 0) return lines.size();
        return lines.isEmpty() ? -1 : lines.get(what == 1 ? 0 : lines.size() - 1);
    }

    /** How many of those are alike that are most. */
    private static int mostAlike(List<Integer> of, IntUnaryOperator answer) {
        Map<Integer, Integer> times = new HashMap<>();
        for (int k : of) {
            times.merge(answer.applyAsInt(k), 1, Integer::sum);
        }
        return times.values().stream().max(Integer::compare).orElse(0);
    }

    int tries() {
        List<Integer> lines = fitting();
        return lines.isEmpty() ? -1 : least(1, 60, l -> mostAlike(lines, line -> brings(l, line)))[0];
    }

    int note(int i, int l, int h, int x) {
        boolean told = there(i) && in(l, 1, 60) && in(h, 0, 23) && in(x, 0, 200);
        return told ? add(s.notes, i, l, h, x) : bad();
    }

    int mark(int w, int shown, int d, int x) {
        boolean told = in(w, 0, 1) && in(shown, 0, 99) && in(d, 0, 99) && in(x, 0, 200);
        return told ? add(s.marks, w, shown, d, x) : bad();
    }

    int forget(int what) {
        if (!in(what, 0, 2)) return bad();
        List<int[]> list = List.of(s.came, s.notes, s.marks).get(what);
        int were = list.size();
        list.clear();
        return were;
    }

    private static int bits(List<Integer> kinds) {
        return kinds.stream().mapToInt(k -> 1 << k).sum();
    }

    private List<Integer> stringKinds(int i) {
        List<Integer> fit = new ArrayList<>(List.of(0, 1, 2, 3, 4, 5));
        fit.removeIf(k -> s.notes.stream().anyMatch(n -> n[0] == i && shows(k, n[1], n[2]) != n[3]));
        return fit;
    }

    private List<Integer> houseKinds(int w) {
        List<Integer> fit = new ArrayList<>(List.of(0, 1, 2, 3, 4, 5));
        fit.removeIf(k -> s.marks.stream().anyMatch(m -> m[0] == w && HOUSES.get(k).charges(m[1], m[2]) != m[3]));
        return fit;
    }

    int is(int i) {
        return there(i) ? bits(stringKinds(i)) : bad();
    }

    int look(int i) {
        if (!there(i)) return bad();
        List<Integer> fit = stringKinds(i);
        int l = s.strings.get(i)[1];
        return fit.isEmpty() ? -1 : least(0, 23, h -> mostAlike(fit, k -> shows(k, l, h)))[0];
    }

    int kinds(int w) {
        return in(w, 0, 1) ? bits(houseKinds(w)) : bad();
    }

    int ask(int w) {
        if (!in(w, 0, 1)) return bad();
        List<Integer> fit = houseKinds(w);
        if (fit.isEmpty()) return -1;
        return least(0, 199, q -> mostAlike(fit, k -> HOUSES.get(k).charges(q % 100, q / 100)))[0];
    }

    /** What goes to the end e (0 below, 1 above). */
    private int gets(int i, int j, int e) {
        int sum = 0;
        int d = s.hour() / 24;
        for (int k = 0; k < s.strings.size(); k++) {
            int shown = s.shows(k, s.hour());
            int[] c = {HOUSES.get(i).charges(shown, d), HOUSES.get(j).charges(shown, d)};
            if (c[0] + c[1] <= 2 * s.brings(k)) sum += c[e];
        }
        return sum;
    }

    int ends(int k) {
        if (k < -1) {
            bad();
            return -10;
        }
        List<Integer> resting = new ArrayList<>();
        for (int pair = 0; pair < 60; pair++) {
            int i = pair / 10;
            int j = pair % 10;
            if (j > 5) continue;
            boolean rests = true;
            for (int other = 0; other < 6; other++) {
                rests &= gets(other, j, 0) <= gets(i, j, 0) && gets(i, other, 1) <= gets(i, j, 1);
            }
            if (rests) resting.add(pair);
        }
        if (k == -1) return resting.size();
        return k < resting.size() ? resting.get(k) : -5;
    }

    /** All ways to cut, each by its odds. */
    int scissors(int c) {
        if (!in(c, 0, 10)) return bad();
        int n = s.strings.size();
        BigInteger sum = BigInteger.ZERO;
        for (int cut = 0; cut < 1 << n; cut++) {
            long odds = 1;
            int brought = 0;
            for (int i = 0; i < n; i++) {
                boolean isCut = (cut >> i & 1) == 1;
                odds *= isCut ? c : 10 - c;
                brought += brings(isCut ? s.strings.get(i)[1] / 2 : s.strings.get(i)[1], s.line);
            }
            sum = sum.add(BigInteger.valueOf(odds * brought));
        }
        BigInteger all = BigInteger.TEN.pow(n);
        BigInteger common = sum.gcd(all);
        above = sum.divide(common);
        below = all.divide(common);
        return 1;
    }

    int nights(int seed, int n) {
        if (!in(seed, 0, 999999) || !in(n, 0, 60)) return bad();
        State t = s.copy();
        BigInteger x = BigInteger.valueOf(seed);
        for (int k = 0; k < n; k++) {
            x = x.multiply(BigInteger.valueOf(1103515245)).add(BigInteger.valueOf(12345)).mod(BigInteger.ONE.shiftLeft(31));
            int i = x.divide(BigInteger.valueOf(65536)).mod(BigInteger.valueOf(6)).intValue();
            if (i >= t.strings.size() || !t.send(i)) t.purseHaulStampsHour[3]++;
        }
        return t.purseHaulStampsHour[1] - s.purseHaulStampsHour[1];
    }

    long part(int what) {
        if (!in(what, 0, 1)) return bad();
        return (what == 0 ? above : below).longValueExact();
    }

    int image(int i) {
        if (!in(i, 0, 1)) return bad();
        images[i] = s.copy();
        return 1;
    }

    int from(int i) {
        if (!in(i, 0, 1)) return bad();
        if (images[i] == null) return no();
        s = images[i].copy();
        return 1;
    }

    int status(int what) {
        if (!in(what, 0, 2)) {
            bad();
            return -1;
        }
        return refused[what];
    }

    private int[] counts() {
        return new int[] {s.strings.size(), s.came.size(), s.notes.size(), s.marks.size(), s.undo.size(), text.length()};
    }

    int count(int what) {
        return in(what, 0, 5) ? counts()[what] : bad();
    }

    long digest() {
        List<int[]> parts = new ArrayList<>(List.of(counts(), figures()));
        parts.addAll(s.strings);
        parts.addAll(s.came);
        parts.addAll(s.notes);
        parts.addAll(s.marks);
        parts.add(new int[] {above.intValueExact(), below.intValueExact()});
        long h = 1579;
        for (int[] part : parts) {
            for (int v : part) {
                h = 31 * h + v;
            }
        }
        return h;
    }
}
