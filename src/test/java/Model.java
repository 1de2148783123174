import java.math.BigInteger;
import java.util.ArrayList;
import java.util.Arrays;
import java.util.HashMap;
import java.util.HashSet;
import java.util.List;
import java.util.Map;
import java.util.Set;
import java.util.regex.Matcher;
import java.util.regex.Pattern;

/**
 * The document once more, written another way: states that never change, meetings as sets of
 * pairs, texts by a regular expression, every deed's state kept. It has the face of AshGreetings.
 */
public final class Model {
    private static final Pattern TOWN =
        Pattern.compile(" *[0-9]{5} *([ndshpb][0-9]{3}[0-4] *){2,7}");

    record One(int kind, int high, int foe, int grudge, int street) {
        boolean is(int other) {
            return kind == other || other == 1 && kind == 4 || other == 2 && kind == 5;
        }

        int seen() {
            return kind == 3 ? Math.max(high - 2, 0) : high;
        }

        One with(int what, int v) {
            return new One(what == 0 ? v : kind, what == 1 ? v : high, foe,
                what == 3 ? v : grudge, what == 4 ? v : street);
        }
    }

    record State(List<Integer> deeps, List<One> people, int day) {
        boolean hid(int i) {
            return people.get(i).seen() <= deeps.get(people.get(i).street());
        }

        Set<List<Integer>> meetings() {
            Set<List<Integer>> pairs = new HashSet<>();
            for (int c = 0; c < 5; c++) {
                List<Integer> line = new ArrayList<>();
                for (int i = 0; i < people.size(); i++) {
                    if (people.get(i).street() == c) {
                        line.add(i);
                    }
                }
                for (int k = 0; k + 1 < line.size(); k++) {
                    pairs.add(List.of(line.get(k), line.get(k + 1)));
                    pairs.add(List.of(line.get(k + 1), line.get(k)));
                }
                if (line.size() >= 3) {
                    int last = line.get(line.size() - 1);
                    pairs.add(List.of(last, line.get(0)));
                    pairs.add(List.of(line.get(0), last));
                }
            }
            return pairs;
        }

        boolean meets(int i) {
            return meetings().contains(List.of(i, people.get(i).foe()));
        }

        boolean forgives(int i) {
            return meets(i) && (people.get(i).kind() == 4 || hid(people.get(i).foe()));
        }

        State next() {
            List<One> then = new ArrayList<>();
            for (int i = 0; i < people.size(); i++) {
                One one = people.get(i);
                int g = one.grudge();
                if (forgives(i)) {
                    g -= one.is(1) ? 2 : one.is(2) ? 1 - day % 2 : 1;
                } else if (meets(i)) {
                    g += one.kind() == 5 ? 0 : 1;
                }
                then.add(one.with(3, Math.max(0, Math.min(9, g))));
            }
            return new State(deeps, then, day + 1);
        }

        State behind(int n) {
            State s = this;
            for (int d = 0; d < n; d++) {
                s = s.next();
            }
            return s;
        }

        int total() {
            return people.stream().mapToInt(One::grudge).sum();
        }

        int quiet() {
            return (int) people.stream().filter(one -> one.grudge() == 0).count();
        }

        State deep(int c, int v) {
            List<Integer> other = new ArrayList<>(deeps);
            other.set(c, v);
            return new State(other, people, day);
        }

        State person(int i, int what, int v) {
            List<One> other = new ArrayList<>(people);
            other.set(i, people.get(i).with(what, v));
            return new State(deeps, other, day);
        }
    }

    private final int[][] rows = new int[6][];
    private final byte[][] texts = new byte[4][];
    private List<State> states = new ArrayList<>(
        List.of(new State(List.of(0, 0, 0, 0, 0), List.of(), 0)));
    private final List<List<State>> kept = new ArrayList<>(Arrays.asList(null, null, null));
    private final int[] findings = new int[6];
    private int finding;
    private int asked;
    private BigInteger upper = BigInteger.ZERO;
    private BigInteger lower = BigInteger.ONE;

    private State now() {
        return states.get(states.size() - 1);
    }

    private int done() {
        return states.size() - 1;
    }

    private boolean nobody() {
        return now().people().isEmpty();
    }

    private boolean one(int i) {
        return i >= 0 && i < now().people().size();
    }

    private static boolean in(int v, int from, int to) {
        return v >= from && v <= to;
    }

    private int find(int f) {
        finding = f;
        findings[f]++;
        return -3;
    }

    private int tell(int answer, int told) {
        asked = told;
        return answer;
    }

    public int row(int r, int n) {
        if (!in(r, 0, 5) || n > 40) return -1;
        if (n < 0) return find(5);
        rows[r] = new int[n];
        return n;
    }

    public int lay(int r, int i, int v) {
        int answer = at(r, i);
        if (answer == 1) rows[r][i] = v;
        return answer;
    }

    public int at(int r, int i) {
        if (!in(r, 0, 5)) return -1;
        if (rows[r] == null) return find(1);
        if (!in(i, 0, rows[r].length - 1)) return find(2);
        return tell(1, rows[r][i]);
    }

    public int tear(int r) {
        if (!in(r, 0, 5)) return -1;
        if (rows[r] == null) return find(1);
        rows[r] = null;
        return 1;
    }

    public int copy(int r, int i, int to, int j, int n) {
        if (!in(r, 0, 5) || !in(to, 0, 5)) return -1;
        if (n < 0) return find(5);
        if (rows[r] == null || rows[to] == null) return find(1);
        if (i < 0 || j < 0 || (long) i + n > rows[r].length || (long) j + n > rows[to].length) {
            return find(2);
        }
        int[] taken = Arrays.copyOfRange(rows[r], i, i + n);
        for (int k = 0; k < n; k++) rows[to][j + k] = taken[k];
        return 1;
    }

    public int mean(int r) {
        if (!in(r, 0, 5)) return -1;
        if (rows[r] == null) return find(1);
        if (rows[r].length == 0) return find(4);
        BigInteger sum = BigInteger.ZERO;
        for (int v : rows[r]) sum = sum.add(BigInteger.valueOf(v));
        return tell(1, sum.divide(BigInteger.valueOf(rows[r].length)).intValueExact());
    }

    public int text(int t, int n) {
        if (!in(t, 0, 3) || n > 60) return -1;
        if (n < 0) return find(5);
        texts[t] = new byte[n];
        Arrays.fill(texts[t], (byte) 32);
        return n;
    }

    public int put(int t, int i, int v) {
        if (!in(t, 0, 3)) return -1;
        if (texts[t] == null) return find(1);
        if (!in(i, 0, texts[t].length - 1)) return find(2);
        int was = texts[t][i];
        texts[t][i] = (byte) v;
        return 1000 + was;
    }

    private String said(int t) {
        StringBuilder s = new StringBuilder();
        for (byte b : texts[t]) s.append((char) (b & 255));
        return s.toString();
    }

    public int fault(int t) {
        if (!in(t, 0, 3)) return -1;
        if (texts[t] == null) return find(1);
        String said = said(t);
        for (int n = 1; n <= said.length(); n++) {
            Matcher m = TOWN.matcher(said.substring(0, n));
            boolean whole = m.matches();
            if (!whole && !m.hitEnd()) return n - 1;
        }
        return TOWN.matcher(said).matches() ? -9 : said.length();
    }

    public int town(int t) {
        int fault = fault(t);
        if (fault == -1 || fault == -3) return fault;
        if (fault != -9) return -4;
        String said = said(t).replace(" ", "");
        List<Integer> deeps = new ArrayList<>();
        for (int c = 0; c < 5; c++) deeps.add(said.charAt(c) - '0');
        List<One> people = new ArrayList<>();
        int many = said.length() / 5 - 1;
        for (int i = 0; i < many; i++) {
            String item = said.substring(5 + 5 * i, 10 + 5 * i);
            int foe = (i + item.charAt(2) - '0') % many;
            people.add(new One("ndshpb".indexOf(item.charAt(0)), item.charAt(1) - '0',
                foe == i ? -1 : foe, item.charAt(3) - '0', item.charAt(4) - '0'));
        }
        states = new ArrayList<>(List.of(new State(deeps, people, 0)));
        for (int k = 0; k < 3; k++) kept.set(k, null);
        return many;
    }

    private int fact(int i, int what) {
        One one = now().people().get(i);
        int[] facts = {one.kind(), one.high(), one.foe(), one.grudge(), one.street(),
            now().hid(i) ? 1 : 0, now().meets(i) ? 1 : 0};
        return facts[what];
    }

    public int person(int i, int what) {
        return one(i) && in(what, 0, 6) ? tell(1, fact(i, what)) : -1;
    }

    public int deep(int c) {
        if (!in(c, 0, 4)) return -1;
        if (nobody()) return -4;
        int there = (int) now().people().stream().filter(one -> one.street() == c).count();
        return tell(now().deeps().get(c), there);
    }

    public int mark(int i, int kind) {
        if (!one(i) || !in(kind, 1, 5)) return -1;
        One one = now().people().get(i);
        if (!one.is(kind)) return find(3);
        boolean seesFoe = now().meets(i) && !now().hid(one.foe());
        if (kind == 1) return one.grudge() / 2 + one.grudge() % 2;
        if (kind == 2) return 1 - now().day() % 2;
        if (kind == 3) return one.high() - one.seen();
        if (kind == 4) return seesFoe ? 1 : 0;
        int asNeighbour = now().person(i, 0, 0).next().people().get(i).grudge();
        return Math.max(0, asNeighbour - now().next().people().get(i).grudge());
    }

    private void become(State s) {
        states.add(s);
    }

    public int day() {
        if (nobody() || now().day() == 99) return -4;
        if (done() == 40) return -2;
        become(now().next());
        return now().total();
    }

    public int fall(int c, int n) {
        if (!in(c, 0, 4) || !in(n, 1, 9)) return -1;
        if (nobody() || now().deeps().get(c) == 9) return -4;
        if (done() == 40) return -2;
        become(now().deep(c, Math.min(9, now().deeps().get(c) + n)));
        return now().deeps().get(c);
    }

    public int wind(int c) {
        if (!in(c, 0, 4)) return -1;
        if (nobody() || now().deeps().get(c) == 0) return -4;
        if (done() == 40) return -2;
        int was = now().deeps().get(c);
        become(now().deep(c, 0));
        return was;
    }

    public int go(int i, int c) {
        if (!one(i) || !in(c, 0, 4)) return -1;
        int was = now().people().get(i).street();
        if (was == c) return -4;
        if (done() == 40) return -2;
        become(now().person(i, 4, c));
        return was;
    }

    public int undo(int n) {
        if (!in(n, 0, done())) return -1;
        int many = done() - n;
        states = new ArrayList<>(states.subList(0, n + 1));
        return many;
    }

    public int keep(int k) {
        if (!in(k, 0, 2)) return -1;
        if (nobody()) return -4;
        kept.set(k, List.copyOf(states));
        return done();
    }

    public int on(int k) {
        if (!in(k, 0, 2)) return -1;
        if (kept.get(k) == null) return find(1);
        states = new ArrayList<>(kept.get(k));
        return done();
    }

    public int meets() {
        int who = 0;
        int forgiving = 0;
        for (int i = 0; i < now().people().size(); i++) {
            who += now().meets(i) ? 1 << i : 0;
            forgiving += now().forgives(i) ? 1 : 0;
        }
        return tell(who, forgiving);
    }

    public int later(int i, int n) {
        if (!one(i) || !in(n, 0, 60)) return -1;
        State then = now().behind(n);
        return tell(then.people().get(i).grudge(), then.total());
    }

    public int peace() {
        if (nobody()) return -4;
        int most = 0;
        State s = now();
        for (int d = 0; d <= 120; d++) {
            most = Math.max(most, s.total());
            if (s.quiet() == s.people().size()) return tell(d, most);
            s = s.next();
        }
        return -9;
    }

    public int left(int n) {
        if (!in(n, 0, 60)) return -1;
        if (nobody()) return -4;
        State then = now().behind(n);
        return tell(then.total(), then.quiet());
    }

    public int ash(int n) {
        if (!in(n, 1, 40)) return -1;
        if (nobody()) return -4;
        int[] totals = new int[10];
        for (int v = 0; v <= 9; v++) {
            State s = new State(List.of(v, v, v, v, v), now().people(), now().day());
            totals[v] = s.behind(n).total();
        }
        int least = Arrays.stream(totals).min().getAsInt();
        int v = 0;
        while (totals[v] != least) v++;
        return tell(v, least);
    }

    public int best(int n) {
        if (!in(n, 1, 40)) return -1;
        if (nobody()) return -4;
        int least = now().behind(n).total();
        int answer = -9;
        for (int number = 0; number < 70; number++) {
            if (one(number / 10) && in(number % 10, 0, 4)) {
                int total = now().person(number / 10, 4, number % 10).behind(n).total();
                if (total < least) {
                    least = total;
                    answer = number;
                }
            }
        }
        return answer == -9 ? -9 : tell(answer, least);
    }

    private int refusal(int i, int r) {
        if (!one(i) || !in(r, 0, 5)) return -1;
        if (rows[r] == null) return find(1);
        if (!in(rows[r].length, 1, 20)) return find(5);
        for (int v : rows[r]) if (!in(v, 0, 63)) return find(3);
        return 0;
    }

    private int fitting(int i, int r, int what, int many) {
        int set = 0;
        for (int v = 0; v < many; v++) {
            boolean fits = true;
            for (int d = 0; d < rows[r].length; d++) {
                fits &= now().person(i, what, v).behind(d + 1).total() == rows[r][d];
            }
            set += fits ? 1 << v : 0;
        }
        return set;
    }

    public int kinds(int i, int r) {
        int refused = refusal(i, r);
        return refused != 0 ? refused : fitting(i, r, 0, 6);
    }

    public int highs(int i, int r) {
        int refused = refusal(i, r);
        return refused != 0 ? refused : fitting(i, r, 1, 10);
    }

    public int test(int i, int r) {
        int refused = refusal(i, r);
        if (refused != 0) return refused;
        int set = fitting(i, r, 0, 6);
        if (set == 0) return -9;
        int least = 99;
        int first = 0;
        for (int d = 1; d <= 20; d++) {
            Map<Integer, Integer> parts = new HashMap<>();
            for (int k = 0; k < 6; k++) {
                if ((set & 1 << k) != 0) parts.merge(now().person(i, 0, k).behind(d).total(), 1, Integer::sum);
            }
            int greatest = parts.values().stream().max(Integer::compare).get();
            if (greatest < least) {
                least = greatest;
                first = d;
            }
        }
        return tell(first, least);
    }

    public int duel(int n) {
        if (!in(n, 0, 3)) return -1;
        if (nobody()) return -4;
        return n == 0 ? now().behind(6).total() : ashTurn(now(), n);
    }

    private static int ashTurn(State s, int turns) {
        if (turns == 0) return s.behind(6).total();
        int least = windTurn(s, turns - 1);
        for (int c = 0; c < 5; c++) {
            least = Math.min(least, windTurn(s.deep(c, Math.min(9, s.deeps().get(c) + 1)), turns - 1));
        }
        return least;
    }

    private static int windTurn(State s, int turns) {
        if (turns == 0) return s.behind(6).total();
        int most = ashTurn(s, turns - 1);
        for (int c = 0; c < 5; c++) {
            most = Math.max(most, ashTurn(s.deep(c, 0), turns - 1));
        }
        return most;
    }

    /** Goes on street by street, with the weight so far; adds up how many by their total. */
    private void winds(State s, int c, long weight, int n, int p, long[] byTotal) {
        if (c == 5) {
            byTotal[s.behind(n).total()] += weight;
            return;
        }
        winds(s.deep(c, 0), c + 1, weight * p, n, p, byTotal);
        winds(s, c + 1, weight * (12 - p), n, p, byTotal);
    }

    private int fraction(long up) {
        BigInteger low = BigInteger.valueOf(12).pow(5);
        BigInteger shared = low.gcd(BigInteger.valueOf(up));
        upper = BigInteger.valueOf(up).divide(shared);
        lower = low.divide(shared);
        return 1;
    }

    public int odds(int k, int n, int p) {
        if (!in(k, 0, 63) || !in(n, 0, 20) || !in(p, 0, 12)) return -1;
        if (nobody()) return -4;
        long[] byTotal = new long[64];
        winds(now(), 0, 1, n, p, byTotal);
        return fraction(Arrays.stream(byTotal, 0, k + 1).sum());
    }

    public int mid(int n, int p) {
        if (!in(n, 0, 20) || !in(p, 0, 12)) return -1;
        if (nobody()) return -4;
        long[] byTotal = new long[64];
        winds(now(), 0, 1, n, p, byTotal);
        long up = 0;
        for (int v = 0; v < 64; v++) up += v * byTotal[v];
        return fraction(up);
    }

    public int lots(int n, int seed) {
        if (!in(n, 1, 20) || !in(seed, 1, 2147483646)) return -1;
        if (nobody()) return -4;
        if (done() + n > 40) return -2;
        BigInteger lot = BigInteger.valueOf(seed);
        for (int d = 0; d < n; d++) {
            lot = lot.multiply(BigInteger.valueOf(48271)).mod(BigInteger.valueOf(2147483647));
            long it = lot.longValueExact();
            int c = (int) (it / 8 % 5);
            int before = done();
            switch ((int) (it % 8)) {
                case 0 -> wind(c);
                case 1, 2 -> fall(c, 1);
                case 3 -> go((int) (it / 64 % now().people().size()), c);
                default -> day();
            }
            if (done() == before) become(now());
        }
        return now().total();
    }

    public int asked() {
        return asked;
    }

    public long upper() {
        return upper.longValueExact();
    }

    public long lower() {
        return lower.longValueExact();
    }

    public int count(int what) {
        if (!in(what, 0, 11)) return -1;
        int hid = 0;
        int quiet = 0;
        int devout = 0;
        int stubborn = 0;
        for (int i = 0; i < now().people().size(); i++) {
            One one = now().people().get(i);
            hid += now().hid(i) ? 1 << i : 0;
            quiet += one.grudge() == 0 ? 1 << i : 0;
            devout += one.is(1) ? 1 : 0;
            stubborn += one.is(2) ? 1 : 0;
        }
        int[] counts = {now().people().size(), now().day(), done(), now().total(), hid, quiet,
            now().deeps().stream().mapToInt(v -> v).sum(),
            (int) Arrays.stream(rows).filter(r -> r != null).count(),
            (int) Arrays.stream(texts).filter(t -> t != null).count(),
            (int) kept.stream().filter(k -> k != null).count(), devout, stubborn};
        return counts[what];
    }

    public int finding() {
        return finding;
    }

    public int findings(int f) {
        return in(f, 1, 5) ? findings[f] : -1;
    }

    public long digest() {
        List<Integer> all = new ArrayList<>();
        for (int what = 0; what < 12; what++) all.add(count(what));
        for (int i = 0; i < now().people().size(); i++) {
            for (int what = 0; what < 7; what++) all.add(fact(i, what));
        }
        all.addAll(now().deeps());
        for (List<State> k : kept) all.add(k == null ? -1 : k.size() - 1);
        for (int[] r : rows) {
            all.add(r == null ? -1 : r.length);
            for (int v : r == null ? new int[0] : r) all.add(v);
        }
        for (byte[] t : texts) {
            all.add(t == null ? -1 : t.length);
            for (byte v : t == null ? new byte[0] : t) all.add((int) v);
        }
        long h = 17;
        for (int v : all) h = 31 * h + v;
        return h;
    }
}
