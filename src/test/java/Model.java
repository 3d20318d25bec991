import java.math.BigInteger;
import java.util.ArrayDeque;
import java.util.ArrayList;
import java.util.Arrays;
import java.util.Deque;
import java.util.HashMap;
import java.util.HashSet;
import java.util.List;
import java.util.Map;
import java.util.NoSuchElementException;
import java.util.Set;
import java.util.TreeSet;

/**
 * The document's face once more, slowly and by other ways: rows as texts of u and d, points of the
 * circle as doubles, parts as BigIntegers. RandomRunsTest holds the class against it.
 */
final class Model {
    private static final String RESERVED = " lab stack unsure agreed ";

    private static final class Told {
        int[] near = new int[4];
        List<String> names = new ArrayList<>();
        List<String> rows = new ArrayList<>();
        List<int[]> unsure = new ArrayList<>();
        List<int[]> agreed = new ArrayList<>();
        boolean complete;
    }

    private static final class Fault extends Exception {
        final int number;
        final int place;

        Fault(int number, int place) {
            super("", null, false, false);
            this.number = number;
            this.place = place;
        }
    }

    private final StringBuilder tape = new StringBuilder();
    private Told told;
    private List<String> now = new ArrayList<>();
    private Deque<List<String>> before = new ArrayDeque<>();
    private final List<List<String>> images = new ArrayList<>();
    private int trouble;
    private int fault;
    private int where;

    // ---- the lab

    int feed(int a, int b, int c, int d, int e) {
        if (tape.length() > 480) {
            return -1;
        }
        for (int number : new int[] {a, b, c, d, e}) {
            tape.append((char) (number >>> 24)).append((char) (number >>> 16 & 255));
            tape.append((char) (number >>> 8 & 255)).append((char) (number & 255));
        }
        return tape.length();
    }

    int lab(int n) {
        if (n < 0 || n > tape.length()) {
            return no(2, -1);
        }
        String text = tape.substring(0, n);
        tape.setLength(0);
        try {
            told = read(text);
        } catch (Fault f) {
            fault = f.number;
            where = f.place;
            return no(4, -1);
        }
        fault = 0;
        now = new ArrayList<>(told.rows);
        before = new ArrayDeque<>();
        images.clear();
        return yes(now.size());
    }

    int fault() {
        return fault;
    }

    int where() {
        return trouble == 4 ? where : -1;
    }

    /** Tokens as {text, place}; a token that is none has the text "?"; the end is "". */
    private static List<Object[]> tokens(String text) {
        List<Object[]> result = new ArrayList<>();
        java.util.regex.Matcher m = java.util.regex.Pattern.compile("[a-z]+|[0-9]+| +|(?s).").matcher(text);
        while (m.find()) {
            String t = m.group();
            if (t.startsWith(" ")) {
                continue;
            }
            boolean good = t.matches("[a-z]{1,12}|[0-9]{1,3}|[;-]");
            result.add(new Object[] {good ? t : "?", m.start()});
        }
        result.add(new Object[] {"", text.length()});
        return result;
    }

    private List<Object[]> tokens;
    private int at;

    private String token() {
        return (String) tokens.get(at)[0];
    }

    private Fault faultHere(int number) {
        return new Fault(number, (Integer) tokens.get(at)[1]);
    }

    private void word(String w) throws Fault {
        if (!token().equals(w)) {
            throw faultHere(1);
        }
        at++;
    }

    private int whole(int low, int high) throws Fault {
        if (!token().matches("[0-9]+")) {
            throw faultHere(1);
        }
        int value = Integer.parseInt(token());
        if (value < low || value > high) {
            throw faultHere(4);
        }
        at++;
        return value;
    }

    private int number() throws Fault {
        if (token().equals("-")) {
            at++;
            return -whole(0, 99);
        }
        return whole(0, 99);
    }

    private String name() throws Fault {
        if (!token().matches("[a-z]{1,8}") || RESERVED.contains(" " + token() + " ")) {
            throw faultHere(1);
        }
        return token();
    }

    private Told read(String text) throws Fault {
        tokens = tokens(text);
        at = 0;
        Told t = new Told();
        while (true) {
            line(t);
            if (token().isEmpty()) {
                if (t.rows.isEmpty()) {
                    throw faultHere(6);
                }
                return t;
            }
            word(";");
        }
    }

    private void line(Told t) throws Fault {
        String first = token();
        if (!(first.equals("lab") || first.equals("stack") || first.equals("unsure") || first.equals("agreed"))) {
            throw faultHere(1);
        }
        if (first.equals("lab")) {
            if (t.complete) {
                throw faultHere(3);
            }
            at++;
            String[] parts = {"near", "second", "third", "growth"};
            for (int i = 0; i < 4; i++) {
                word(parts[i]);
                t.near[i] = i == 3 ? whole(0, 100) : number();
            }
            t.complete = true;
            return;
        }
        if (!t.complete) {
            throw faultHere(6);
        }
        if (first.equals("stack") && t.rows.size() == 5 || first.equals("unsure") && t.unsure.size() == 4
                || first.equals("agreed") && t.agreed.size() == 6) {
            throw faultHere(5);
        }
        at++;
        String name = name();
        int s = t.names.indexOf(name);
        if (first.equals("stack")) {
            if (s >= 0) {
                throw faultHere(3);
            }
            at++;
            if (!token().matches("[a-z]+")) {
                throw faultHere(1);
            }
            if (!token().matches("[ud]{2,12}")) {
                throw faultHere(7);
            }
            t.names.add(name);
            t.rows.add(token());
            at++;
            return;
        }
        if (s < 0) {
            throw faultHere(2);
        }
        at++;
        List<int[]> kept = first.equals("unsure") ? t.unsure : t.agreed;
        for (int[] k : kept) {
            if (k[0] == s && token().matches("[0-9]+") && k[1] == Integer.parseInt(token())) {
                throw faultHere(3);
            }
        }
        if (first.equals("unsure")) {
            kept.add(new int[] {s, whole(0, t.rows.get(s).length() - 1)});
        } else {
            int distance = whole(1, 36);
            kept.add(new int[] {s, distance, whole(0, 36)});
        }
    }

    // ---- a stack

    int stack(int s, int what) {
        if (none(s) || what < 0 || what > 5) {
            return no(1, -1);
        }
        String row = now.get(s);
        if (what == 3) {
            int p = 1;
            while (!turned(row, p).equals(row)) {
                p++;
            }
            return yes(p);
        }
        int h = 0;
        for (int k = 0; k < row.length(); k++) {
            h += isHex(row, k) ? 1 : 0;
        }
        int[] answers = {row.length(), whole(row), layers(row).length(), 0, h, runsOf(row).size()};
        return yes(answers[what]);
    }

    int sum(int s) {
        return none(s) ? no(1, -100) : yes(total(now.get(s)));
    }

    int layer(int s, int k) {
        if (none(s)) {
            return no(1, -1);
        }
        return k < 0 || k > 35 ? no(2, -1) : yes("ABC".indexOf(longLayers(now.get(s)).charAt(k)));
    }

    int hex(int s, int k) {
        if (none(s)) {
            return no(1, -1);
        }
        return k < 0 || k > 35 ? no(2, -1) : yes(isHex(now.get(s), k) ? 1 : 0);
    }

    int run(int s, int i) {
        if (none(s)) {
            return no(1, -1);
        }
        List<Integer> runs = runsOf(now.get(s));
        return i < 0 || i >= runs.size() ? no(1, -1) : yes(runs.get(i));
    }

    int agree(int s, int m) {
        if (none(s)) {
            return no(1, -1);
        }
        return m < 1 || m > 36 ? no(2, -1) : yes(alikeBy(now.get(s), m));
    }

    long share(int s, boolean lower) {
        if (none(s)) {
            return no(1, -1);
        }
        String row = now.get(s);
        long h = 0;
        for (int k = 0; k < layers(row).length(); k++) {
            h += isHex(row, k) ? 1 : 0;
        }
        return part(BigInteger.valueOf(h), BigInteger.valueOf(layers(row).length()), lower);
    }

    int energy(int s) {
        return none(s) ? no(1, -1000000) : yes(energyOf(now.get(s)));
    }

    int calmest() {
        if (told == null) {
            return no(1, -1);
        }
        int best = 0;
        for (int s = 0; s < now.size(); s++) {
            double here = (double) energyOf(now.get(s)) / now.get(s).length();
            double there = (double) energyOf(now.get(best)) / now.get(best).length();
            best = here < there - 1e-9 ? s : best;
        }
        return yes(best);
    }

    // ---- lines

    int out(int s, int l) {
        if (none(s)) {
            return no(1, -1);
        }
        List<Integer> gone = gone(now.get(s));
        return l < 0 || l >= gone.size() ? no(2, -1) : yes(gone.get(l));
    }

    int outs(int s) {
        return none(s) ? no(1, -1) : yes(gone(now.get(s)).stream().mapToInt(i -> i).sum());
    }

    int firstLine(int s) {
        if (none(s)) {
            return no(1, -1);
        }
        List<Integer> gone = gone(now.get(s));
        int first = gone.subList(1, gone.size()).indexOf(0);
        return yes(first < 0 ? -2 : first + 1);
    }

    int sameLines(int s, int t) {
        if (none(s) || none(t)) {
            return no(1, -1);
        }
        List<Integer> first = gone(now.get(s));
        List<Integer> second = gone(now.get(t));
        return first.size() != second.size() ? no(5, -1) : yes(first.equals(second) ? 1 : 0);
    }

    // ---- rows of least energy

    int ground(int n) {
        return told == null ? no(1, -1000000) : n < 2 || n > 12 ? no(2, -1000000) : yes(leastEnergy(n));
    }

    int groundRow(int n) {
        return told == null ? no(1, -1) : n < 2 || n > 12 ? no(2, -1) : yes(whole(grounds(n).get(0)));
    }

    int groundMany(int n) {
        return told == null ? no(1, -1) : n < 2 || n > 12 ? no(2, -1) : yes(grounds(n).size());
    }

    int groundBest() {
        if (told == null) {
            return no(1, -1);
        }
        int best = 2;
        for (int n = 3; n <= 12; n++) {
            best = (double) leastEnergy(n) / n < (double) leastEnergy(best) / best - 1e-9 ? n : best;
        }
        return yes(best);
    }

    // ---- kinds

    int kinds(int n, int how, boolean closed) {
        if (told == null) {
            return no(1, -1);
        }
        if (n < 1 || n > 12 || how < 0 || how > 3) {
            return no(2, -1);
        }
        Set<String> seen = new HashSet<>();
        int count = 0;
        for (String row : allRows(n)) {
            if (closed && layers(row).length() != n) {
                continue;
            }
            if (!seen.contains(row)) {
                count++;
                seen.addAll(kin(row, how));
            }
        }
        return yes(count);
    }

    int alike(int s, int t, int how) {
        if (none(s) || none(t)) {
            return no(1, -1);
        }
        return how < 0 || how > 3 ? no(2, -1) : yes(kin(now.get(s), how).contains(now.get(t)) ? 1 : 0);
    }

    int least(int s, int how) {
        if (none(s)) {
            return no(1, -1);
        }
        return how < 0 || how > 3 ? no(2, -1)
                : yes(kin(now.get(s), how).stream().mapToInt(Model::whole).min().getAsInt());
    }

    int manyAlike(int s, int how) {
        if (none(s)) {
            return no(1, -1);
        }
        return how < 0 || how > 3 ? no(2, -1) : yes(kin(now.get(s), how).size());
    }

    // ---- slips

    int slips(int s, int t, int how) {
        if (none(s) || none(t)) {
            return no(1, -1);
        }
        if (how < 0 || how > 3) {
            return no(2, -1);
        }
        String row = now.get(s);
        if (row.length() != now.get(t).length()) {
            return yes(-2);
        }
        int fewest = 99;
        for (String other : kin(now.get(t), how)) {
            int unlike = 0;
            for (int k = 0; k < row.length(); k++) {
                unlike += row.charAt(k) != other.charAt(k) ? 1 : 0;
            }
            fewest = Math.min(fewest, unlike);
        }
        return yes(fewest);
    }

    int slipEnergy(int s, int k) {
        if (none(s)) {
            return no(1, -1000000);
        }
        return k < 0 || k >= now.get(s).length() ? no(2, -1000000) : yes(energyOf(slipped(now.get(s), k)));
    }

    int weakest(int s) {
        return none(s) ? no(1, -1) : yes(weakestOf(now.get(s)));
    }

    int relax(int s) {
        return none(s) ? no(1, -1) : yes(wayDown(now.get(s)).size() - 1);
    }

    int relaxed(int s) {
        if (none(s)) {
            return no(1, -1);
        }
        List<String> way = wayDown(now.get(s));
        return yes(whole(way.get(way.size() - 1)));
    }

    int pass(int s, int t) {
        if (none(s) || none(t)) {
            return no(1, -1000000);
        }
        if (now.get(s).length() != now.get(t).length()) {
            return no(5, -1000000);
        }
        // The lowest limit, of all energies that there are, by which one comes across.
        Set<Integer> limits = new TreeSet<>();
        for (String row : allRows(now.get(s).length())) {
            limits.add(energyOf(row));
        }
        for (int limit : limits) {
            if (reached(now.get(s), limit).contains(now.get(t))) {
                return yes(limit);
            }
        }
        throw new IllegalStateException();
    }

    int valley(int s) {
        return none(s) ? no(1, -1) : yes(reached(now.get(s), energyOf(now.get(s))).size());
    }

    int faultEnergy(int s, int k) {
        if (none(s)) {
            return no(1, -1000000);
        }
        String row = now.get(s);
        return k < 1 || k >= row.length() ? no(2, -1000000) : yes(energyOf(faulted(row, k)));
    }

    int bestFault(int s) {
        if (none(s)) {
            return no(1, -1);
        }
        String row = now.get(s);
        int best = row.length() - 1;
        for (int k = row.length() - 1; k >= 1; k--) {
            best = energyOf(faulted(row, k)) <= energyOf(faulted(row, best)) ? k : best;
        }
        return yes(best);
    }

    int differs(int s, int t) {
        if (none(s) || none(t)) {
            return no(1, -1);
        }
        String a = now.get(s);
        String b = now.get(t);
        for (int m = 1; m <= 36; m++) {
            double first = (double) alikeBy(a, m) / layers(a).length();
            double second = (double) alikeBy(b, m) / layers(b).length();
            if (Math.abs(first - second) > 1e-9) {
                return yes(m);
            }
        }
        return yes(-2);
    }

    // ---- unsure steps

    int fits() {
        return told == null ? no(1, -1) : yes(fitting().size());
    }

    int fitAt(int i) {
        return told == null || i < 0 || i >= fitting().size() ? no(1, -1) : yes(fitting().get(i));
    }

    int could() {
        return told == null ? no(1, -1) : yes(fitting().stream().reduce(0, (a, b) -> a | b));
    }

    int surely() {
        return told == null ? no(1, -1) : yes(fitting().stream().reduce((a, b) -> a & b).orElse(0));
    }

    int ask() {
        return told == null ? no(1, -1) : yes(question()[0]);
    }

    int askLeaves() {
        return told == null ? no(1, -1) : yes(question()[1]);
    }

    int judge() {
        if (told == null) {
            return no(1, -1);
        }
        for (int i = 0; i < told.agreed.size(); i++) {
            int[] a = told.agreed.get(i);
            if (alikeBy(told.rows.get(a[0]), a[1]) != a[2]) {
                return yes(i);
            }
        }
        return yes(-2);
    }

    private int[] question() {
        int[] best = {-2, -2};
        List<Integer> sets = fitting();
        for (int u = 0; u < told.unsure.size() && !sets.isEmpty(); u++) {
            int bit = u;
            int with = (int) sets.stream().filter(x -> (x >> bit) % 2 == 1).count();
            int most = Math.max(with, sets.size() - with);
            if (best[0] < 0 || most < best[1]) {
                best = new int[] {u, most};
            }
        }
        return best;
    }

    private List<Integer> fitting() {
        List<Integer> result = new ArrayList<>();
        for (int set = 0; set < Math.pow(2, told.unsure.size()); set++) {
            List<String> rows = new ArrayList<>(told.rows);
            for (int u = 0; u < told.unsure.size(); u++) {
                int[] place = told.unsure.get(u);
                if ((set >> u) % 2 == 1) {
                    rows.set(place[0], slipped(rows.get(place[0]), place[1]));
                }
            }
            boolean all = true;
            for (int[] a : told.agreed) {
                all &= alikeBy(rows.get(a[0]), a[1]) == a[2];
            }
            if (all) {
                result.add(set);
            }
        }
        return result;
    }

    // ---- growth

    long odds(int n, int changes, boolean lower) {
        if (told == null) {
            return no(1, -1);
        }
        if (n < 1 || n > 8 || changes < 0 || changes > 7) {
            return no(2, -1);
        }
        BigInteger upper = BigInteger.ZERO;
        for (String row : allRows(n)) {
            if (row.charAt(0) == 'u' && changesOf(row) <= changes) {
                upper = upper.add(chance(row));
            }
        }
        return part(upper, BigInteger.valueOf(100).pow(n - 1), lower);
    }

    long rowOdds(int s, boolean lower) {
        if (none(s)) {
            return no(1, -1);
        }
        String row = now.get(s);
        if (row.length() > 8) {
            return no(5, -1);
        }
        return part(chance(row), BigInteger.valueOf(100).pow(row.length() - 1), lower);
    }

    long meanSum(int n, boolean lower) {
        if (told == null) {
            return no(1, -1000000);
        }
        if (n < 1 || n > 8) {
            return no(2, -1000000);
        }
        BigInteger upper = BigInteger.ZERO;
        for (String row : allRows(n)) {
            if (row.charAt(0) == 'u') {
                upper = upper.add(chance(row).multiply(BigInteger.valueOf(total(row))));
            }
        }
        return part(upper, BigInteger.valueOf(100).pow(n - 1), lower);
    }

    int grown(int seed, int n) {
        if (told == null) {
            return no(1, -1);
        }
        return seed < 0 || seed > 65536 || n < 1 || n > 12 ? no(2, -1) : yes(whole(grow(seed, n)));
    }

    int longestRun(int seed, int n) {
        if (told == null) {
            return no(1, -1);
        }
        if (seed < 0 || seed > 65536 || n < 1 || n > 200) {
            return no(2, -1);
        }
        String row = grow(seed, n);
        return yes(Math.max(longest(row.split("u")), longest(row.split("d"))));
    }

    private static int longest(String[] runs) {
        return Arrays.stream(runs).mapToInt(String::length).max().orElse(0);
    }

    private String grow(int seed, int n) {
        StringBuilder row = new StringBuilder("u");
        long draw = seed;
        while (row.length() < n) {
            draw = (75 * draw + 74) % 65537;
            boolean up = row.charAt(row.length() - 1) == 'u';
            boolean like = draw % 100 < told.near[3];
            row.append(up == like ? 'u' : 'd');
        }
        return row.toString();
    }

    private static int changesOf(String row) {
        int changes = 0;
        for (int k = 1; k < row.length(); k++) {
            changes += row.charAt(k) != row.charAt(k - 1) ? 1 : 0;
        }
        return changes;
    }

    private BigInteger chance(String row) {
        BigInteger result = BigInteger.ONE;
        for (int k = 1; k < row.length(); k++) {
            boolean like = row.charAt(k) == row.charAt(k - 1);
            result = result.multiply(BigInteger.valueOf(like ? told.near[3] : 100 - told.near[3]));
        }
        return result;
    }

    // ---- acts

    int slip(int s, int k) {
        if (none(s)) {
            return no(1, -1);
        }
        return k < 0 || k >= now.get(s).length() ? no(2, -1) : yes(whole(act(s, slipped(now.get(s), k))));
    }

    int turn(int s) {
        return none(s) ? no(1, -1) : yes(whole(act(s, turned(now.get(s), 1))));
    }

    int twin(int s) {
        return none(s) ? no(1, -1) : yes(whole(act(s, twinned(now.get(s)))));
    }

    int grow(int s, boolean up) {
        if (none(s)) {
            return no(1, -1);
        }
        return now.get(s).length() == 12 ? no(3, -1) : yes(act(s, now.get(s) + (up ? "u" : "d")).length());
    }

    int cut(int s) {
        if (none(s)) {
            return no(1, -1);
        }
        int n = now.get(s).length();
        return n == 2 ? no(5, -1) : yes(act(s, now.get(s).substring(0, n - 1)).length());
    }

    boolean undo() {
        if (before.isEmpty()) {
            no(6, 0);
            return false;
        }
        now = before.removeLast();
        yes(0);
        return true;
    }

    int image() {
        if (told == null) {
            return no(1, -1);
        }
        if (images.size() == 3) {
            return no(3, -1);
        }
        images.add(new ArrayList<>(now));
        return yes(images.size() - 1);
    }

    boolean back(int image) {
        if (image < 0 || image >= images.size()) {
            no(1, 0);
            return false;
        }
        now = new ArrayList<>(images.get(image));
        before.clear();
        yes(0);
        return true;
    }

    private String act(int s, String row) {
        before.addLast(new ArrayList<>(now));
        if (before.size() > 16) {
            before.removeFirst();
        }
        now.set(s, row);
        return row;
    }

    // ---- what is told

    int led(int i) {
        List<Integer> found = new ArrayList<>();
        for (int s = 0; s < now.size(); s++) {
            if (layers(now.get(s)).length() != now.get(s).length()) {
                found.add(s);
            }
        }
        if (i < 0 || i >= found.size()) {
            throw new NoSuchElementException();
        }
        return found.get(i);
    }

    int size(int what) {
        if (what < 0 || what > 9) {
            return -1;
        }
        if (what == 9) {
            return tape.length();
        }
        if (told == null) {
            return 0;
        }
        int[] t = told.near;
        int[] sizes = {t[0] + 100, t[1] + 100, t[2] + 100, t[3], now.size(), told.unsure.size(),
            told.agreed.size(), before.size(), images.size()};
        return sizes[what];
    }

    int trouble() {
        return trouble;
    }

    // ---- rows

    private boolean none(int s) {
        return s < 0 || s >= now.size();
    }

    private int no(int number, int answer) {
        trouble = number;
        return answer;
    }

    private int yes(int answer) {
        trouble = 0;
        return answer;
    }

    private long part(BigInteger upper, BigInteger lower, boolean wantsLower) {
        trouble = 0;
        BigInteger common = upper.gcd(lower);
        return (wantsLower ? lower : upper).divide(common).longValueExact();
    }

    private static int whole(String row) {
        return Integer.parseInt(row.replace('u', '1').replace('d', '0'), 2);
    }

    private static List<String> allRows(int n) {
        List<String> rows = new ArrayList<>(List.of(""));
        for (int k = 0; k < n; k++) {
            List<String> longer = new ArrayList<>();
            for (String row : rows) {
                longer.add(row + "d");
                longer.add(row + "u");
            }
            rows = longer;
        }
        return rows;
    }

    private static String turned(String row, int by) {
        return row.substring(by % row.length()) + row.substring(0, by % row.length());
    }

    private static String twinned(String row) {
        return row.replace('u', 'x').replace('d', 'u').replace('x', 'd');
    }

    private static String below(String row) {
        return twinned(new StringBuilder(row).reverse().toString());
    }

    private static String slipped(String row, int k) {
        return row.substring(0, k) + twinned(row.substring(k, k + 1)) + row.substring(k + 1);
    }

    private static String faulted(String row, int k) {
        return row.substring(0, k) + twinned(row.substring(k));
    }

    private static int total(String row) {
        int sum = 0;
        for (char c : row.toCharArray()) {
            sum += c == 'u' ? 1 : -1;
        }
        return sum;
    }

    private static String longLayers(String row) {
        StringBuilder letters = new StringBuilder("A");
        int step = 0;
        while (letters.length() < 80) {
            String next = row.charAt(step++ % row.length()) == 'u' ? "BCA" : "CAB";
            letters.append(next.charAt("ABC".indexOf(letters.charAt(letters.length() - 1))));
        }
        return letters.toString();
    }

    private static final Map<String, String> LAYERS = new HashMap<>();

    private static String layers(String row) {
        return LAYERS.computeIfAbsent(row, r -> {
            String letters = longLayers(r);
            return letters.charAt(r.length()) == 'A' ? letters.substring(0, r.length())
                    : letters.substring(0, 3 * r.length());
        });
    }

    private static boolean isHex(String row, int k) {
        return row.charAt(k % row.length()) != row.charAt((k + row.length() - 1) % row.length());
    }

    private static List<Integer> runsOf(String row) {
        int begin = -1;
        for (int k = row.length() - 1; k >= 0; k--) {
            begin = isHex(row, k) ? k : begin;
        }
        List<Integer> runs = new ArrayList<>();
        String turned = turned(row, Math.max(0, begin));
        for (int k = 0; k < row.length(); k++) {
            if (k == 0 || turned.charAt(k) != turned.charAt(k - 1)) {
                runs.add(0);
            }
            runs.set(runs.size() - 1, runs.get(runs.size() - 1) + 1);
        }
        return runs;
    }

    private static int alikeBy(String row, int m) {
        String one = layers(row);
        int count = 0;
        for (int j = 0; j < one.length(); j++) {
            count += one.charAt(j) == one.charAt((j + m) % one.length()) ? 1 : 0;
        }
        return count;
    }

    private int energyOf(String row) {
        int energy = 0;
        for (int by = 1; by <= 3; by++) {
            for (int k = 0; k < row.length(); k++) {
                boolean like = row.charAt(k) == row.charAt((k + by) % row.length());
                energy -= (like ? 1 : -1) * told.near[by - 1];
            }
        }
        return energy;
    }

    private static List<Integer> gone(String row) {
        String letters = layers(row);
        List<Integer> result = new ArrayList<>();
        for (int l = 0; l < letters.length(); l++) {
            double x = 0;
            double y = 0;
            for (int j = 0; j < letters.length(); j++) {
                double turn = (double) j * l / letters.length() + (letters.charAt(j) - 'A') / 3.0;
                x += Math.cos(2 * Math.PI * turn);
                y += Math.sin(2 * Math.PI * turn);
            }
            result.add(Math.hypot(x, y) < 1e-9 ? 1 : 0);
        }
        return result;
    }

    private int leastEnergy(int n) {
        return allRows(n).stream().mapToInt(this::energyOf).min().getAsInt();
    }

    private List<String> grounds(int n) {
        int least = leastEnergy(n);
        List<String> rows = allRows(n);
        rows.removeIf(row -> energyOf(row) != least);
        return rows;
    }

    private static Set<String> kin(String row, int how) {
        Set<String> known = new HashSet<>();
        Deque<String> open = new ArrayDeque<>(List.of(row));
        while (!open.isEmpty()) {
            String r = open.removeFirst();
            if (known.add(r)) {
                open.add(turned(r, 1));
                if (how % 2 == 1) {
                    open.add(twinned(r));
                }
                if (how >= 2) {
                    open.add(below(r));
                }
            }
        }
        return known;
    }

    private int weakestOf(String row) {
        int best = row.length() - 1;
        for (int k = row.length() - 1; k >= 0; k--) {
            best = energyOf(slipped(row, k)) <= energyOf(slipped(row, best)) ? k : best;
        }
        return best;
    }

    private List<String> wayDown(String row) {
        List<String> way = new ArrayList<>(List.of(row));
        while (true) {
            String here = way.get(way.size() - 1);
            String next = slipped(here, weakestOf(here));
            if (energyOf(next) >= energyOf(here)) {
                return way;
            }
            way.add(next);
        }
    }

    private Set<String> reached(String from, int limit) {
        Set<String> seen = new HashSet<>();
        Deque<String> open = new ArrayDeque<>();
        if (energyOf(from) <= limit) {
            open.add(from);
        }
        while (!open.isEmpty()) {
            String row = open.removeFirst();
            if (seen.add(row)) {
                for (int k = 0; k < row.length(); k++) {
                    String next = slipped(row, k);
                    if (!seen.contains(next) && energyOf(next) <= limit) {
                        open.add(next);
                    }
                }
            }
        }
        return seen;
    }
}
