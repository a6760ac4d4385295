import java.util.ArrayList;
import java.util.HashMap;
import java.util.HashSet;
import java.util.List;
import java.util.Map;
import java.util.Set;
import java.util.TreeSet;

/**
 * The document once more, in its own words and without any haste: digits are looked at one by one,
 * terms are compared with all other terms, covers are tried in the order of the document.
 */
final class PlainCovers {
    private record Term(String digits, int outs, int inputs) {
        boolean has(int assignment) {
            for (int i = 0; i < inputs; i++) {
                char d = digits.charAt(i);
                if (d != '2' && d - '0' != (assignment >> i & 1)) {
                    return false;
                }
            }
            return true;
        }

        boolean has(int assignment, int output) {
            return (outs >> output & 1) == 1 && has(assignment);
        }

        boolean within(Term other) {
            for (int a = 0; a < 1 << inputs; a++) {
                if (has(a) && !other.has(a)) {
                    return false;
                }
            }
            return (outs & ~other.outs) == 0;
        }

        int cost() {
            int sum = Integer.bitCount(outs);
            for (int i = 0; i < inputs; i++) {
                sum += digits.charAt(i) == '2' ? 0 : 1;
            }
            return sum;
        }

        int column(int i) {
            return i < inputs ? digits.charAt(i) - '0' : outs >> (i - inputs) & 1;
        }
    }

    private final int inputs;
    private final int outputs;
    private final List<int[]> cubeDigits = new ArrayList<>();
    private final List<int[]> cubeKinds = new ArrayList<>();
    private List<Term> kept = null;
    private List<Integer> quotient = null;

    PlainCovers(int inputs, int outputs) {
        this.inputs = inputs < 1 ? 1 : inputs > 4 ? 4 : inputs;
        this.outputs = outputs < 1 ? 1 : outputs > 2 ? 2 : outputs;
    }

    int cube() {
        if (cubeDigits.size() == 24) {
            throw new UnsupportedOperationException();
        }
        int[] digits = new int[inputs];
        java.util.Arrays.fill(digits, 2);
        cubeDigits.add(digits);
        cubeKinds.add(new int[outputs]);
        return cubeDigits.size() - 1;
    }

    boolean literal(int cube, int input, int v) {
        return set(cubeDigits, cube, input, v, inputs);
    }

    boolean to(int cube, int output, int kind) {
        return set(cubeKinds, cube, output, kind, outputs);
    }

    private static boolean set(List<int[]> rows, int row, int place, int v, int places) {
        if (row < 0 || row >= rows.size() || place < 0 || place >= places) {
            throw new IndexOutOfBoundsException();
        }
        if (v != 0 && v != 1 && v != 2) {
            throw new IllegalArgumentException();
        }
        boolean other = rows.get(row)[place] != v;
        rows.get(row)[place] = v;
        return other;
    }

    private boolean someCube(int assignment, int output, int kind) {
        for (int c = 0; c < cubeDigits.size(); c++) {
            boolean has = cubeKinds.get(c)[output] == kind;
            for (int i = 0; i < inputs; i++) {
                int d = cubeDigits.get(c)[i];
                has = has && (d == 2 || d == (assignment >> i & 1));
            }
            if (has) {
                return true;
            }
        }
        return false;
    }

    private boolean isOn(int assignment, int output) {
        return someCube(assignment, output, 1);
    }

    private boolean isOff(int assignment, int output) {
        return !someCube(assignment, output, 1) && !someCube(assignment, output, 2);
    }

    private void allDigits(String begun, List<String> into) {
        if (begun.length() == inputs) {
            into.add(begun);
            return;
        }
        for (char d = '0'; d <= '2'; d++) {
            allDigits(begun + d, into);
        }
    }

    private List<Term> primeTerms() {
        boolean[][] off = new boolean[1 << inputs][outputs];
        for (int a = 0; a < 1 << inputs; a++) {
            for (int o = 0; o < outputs; o++) {
                off[a][o] = isOff(a, o);
            }
        }
        List<String> products = new ArrayList<>();
        allDigits("", products);
        List<Term> terms = new ArrayList<>();
        for (String p : products) {
            for (int outs = 1; outs < 1 << outputs; outs++) {
                Term t = new Term(p, outs, inputs);
                boolean good = true;
                for (int a = 0; a < 1 << inputs; a++) {
                    for (int o = 0; o < outputs; o++) {
                        good = good && !(t.has(a, o) && off[a][o]);
                    }
                }
                if (good) {
                    terms.add(t);
                }
            }
        }
        List<Term> primes = new ArrayList<>();
        for (Term t : terms) {
            boolean alone = true;
            for (Term u : terms) {
                alone = alone && (u == t || !t.within(u));
            }
            if (alone) {
                primes.add(t);
            }
        }
        return primes;
    }

    int primes() {
        return primeTerms().size();
    }

    int prime(int k, int i) {
        return column(primeTerms(), k, i);
    }

    private int column(List<Term> terms, int k, int i) {
        if (k < 0 || k >= terms.size() || i < 0 || i >= inputs + outputs) {
            throw new IndexOutOfBoundsException();
        }
        return terms.get(k).column(i);
    }

    private Set<Integer> onPoints() {
        Set<Integer> points = new TreeSet<>();
        for (int o = 0; o < outputs; o++) {
            for (int a = 0; a < 1 << inputs; a++) {
                if (isOn(a, o)) {
                    points.add(o * 16 + a);
                }
            }
        }
        return points;
    }

    private static boolean hasPoint(Term t, int point) {
        return t.has(point % 16, point / 16);
    }

    private static boolean isCover(List<Term> terms, Set<Integer> points) {
        for (int point : points) {
            boolean had = false;
            for (Term t : terms) {
                had = had || hasPoint(t, point);
            }
            if (!had) {
                return false;
            }
        }
        return true;
    }

    int run(boolean exact, long steps) {
        if (steps < 0) {
            throw new IllegalArgumentException();
        }
        List<Term> primes = primeTerms();
        if (primes.size() > steps) {
            return -1;
        }
        kept = exact ? least(primes) : quick(primes);
        quotient = null;
        return kept.size();
    }

    private List<Term> quick(List<Term> primes) {
        Set<Integer> all = onPoints();
        Set<Integer> open = new TreeSet<>(all);
        List<Term> picked = new ArrayList<>();
        while (!open.isEmpty()) {
            Term best = null;
            long most = 0;
            for (Term t : primes) {
                long many = open.stream().filter(p -> hasPoint(t, p)).count();
                if (best == null || many > most || many == most && t.cost() < best.cost()) {
                    best = t;
                    most = many;
                }
            }
            Term pick = best;
            picked.add(pick);
            open.removeIf(p -> hasPoint(pick, p));
        }
        for (int j = picked.size() - 1; j >= 0; j--) {
            List<Term> fewer = new ArrayList<>(picked);
            fewer.remove(j);
            if (isCover(fewer, all)) {
                picked = fewer;
            }
        }
        picked.sort((a, b) -> Integer.compare(primes.indexOf(a), primes.indexOf(b)));
        return picked;
    }

    /** Rows of primes by their length, each length in the order of words; the first of least cost stays. */
    private List<Term> least(List<Term> primes) {
        int[] masks = new int[primes.size()];
        int all = 0;
        for (int point : onPoints()) {
            all |= 1 << point;
            for (int k = 0; k < masks.length; k++) {
                masks[k] |= hasPoint(primes.get(k), point) ? 1 << point : 0;
            }
        }
        int[] later = new int[masks.length + 1];
        for (int k = masks.length - 1; k >= 0; k--) {
            later[k] = later[k + 1] | masks[k];
        }
        for (int length = 0; ; length++) {
            List<Integer> best = new ArrayList<>();
            int[] bestCost = {Integer.MAX_VALUE};
            tryRows(primes, masks, later, all, length, new ArrayList<>(), best, bestCost);
            if (bestCost[0] != Integer.MAX_VALUE) {
                List<Term> cover = new ArrayList<>();
                best.forEach(k -> cover.add(primes.get(k)));
                return cover;
            }
        }
    }

    private static void tryRows(List<Term> primes, int[] masks, int[] later, int open, int more,
            List<Integer> row, List<Integer> best, int[] bestCost) {
        if (more == 0) {
            int cost = 0;
            for (int k : row) {
                cost += primes.get(k).cost();
            }
            if (open == 0 && cost < bestCost[0]) {
                bestCost[0] = cost;
                best.clear();
                best.addAll(row);
            }
            return;
        }
        int first = row.isEmpty() ? 0 : row.get(row.size() - 1) + 1;
        for (int k = first; k < masks.length && (open & ~later[k]) == 0; k++) {
            row.add(k);
            tryRows(primes, masks, later, open & ~masks[k], more - 1, row, best, bestCost);
            row.remove(row.size() - 1);
        }
    }

    private void needKept() {
        if (kept == null) {
            throw new IllegalStateException();
        }
    }

    int at(int term, int i) {
        needKept();
        return column(kept, term, i);
    }

    boolean tautology() {
        for (int o = 0; o < outputs; o++) {
            for (int a = 0; a < 1 << inputs; a++) {
                if (isOff(a, o)) {
                    return false;
                }
            }
        }
        return true;
    }

    long cost() {
        needKept();
        return kept.stream().mapToLong(Term::cost).sum();
    }

    private Set<String> sum() {
        Set<String> sum = new TreeSet<>();
        kept.forEach(t -> sum.add(t.digits()));
        return sum;
    }

    private Set<String> quotientBy(String divisor) {
        Set<String> found = new TreeSet<>();
        for (String p : sum()) {
            StringBuilder rest = new StringBuilder();
            for (int i = 0; i < inputs; i++) {
                char d = divisor.charAt(i);
                if (d == '2') {
                    rest.append(p.charAt(i));
                } else if (d == p.charAt(i)) {
                    rest.append('2');
                }
            }
            if (rest.length() == inputs) {
                found.add(rest.toString());
            }
        }
        return found;
    }

    int kernels() {
        needKept();
        List<String> products = new ArrayList<>();
        allDigits("", products);
        Set<Set<String>> kernels = new HashSet<>();
        for (String p : products) {
            Set<String> q = quotientBy(p);
            if (q.size() >= 2 && !sharesDigit(q)) {
                kernels.add(q);
            }
        }
        return kernels.size();
    }

    private boolean sharesDigit(Set<String> products) {
        for (int i = 0; i < inputs; i++) {
            Set<Character> digits = new HashSet<>();
            for (String p : products) {
                digits.add(p.charAt(i));
            }
            if (digits.size() == 1 && !digits.contains('2')) {
                return true;
            }
        }
        return false;
    }

    int divide(int set) {
        needKept();
        if (set == 0) {
            throw new IllegalArgumentException();
        }
        for (int k = 0; k < 32; k++) {
            if ((set >> k & 1) == 1 && k >= kept.size()) {
                throw new IllegalArgumentException();
            }
        }
        Set<String> both = null;
        for (int k = 0; k < kept.size(); k++) {
            if ((set >> k & 1) == 1) {
                Set<String> q = quotientBy(kept.get(k).digits());
                if (both == null) {
                    both = q;
                } else {
                    both.retainAll(q);
                }
            }
        }
        quotient = new ArrayList<>();
        for (String p : both) {
            quotient.add(Integer.parseInt(p, 3));
        }
        return quotient.size();
    }

    int quotient(int k) {
        if (quotient == null || k < 0 || k >= quotient.size()) {
            throw new IndexOutOfBoundsException();
        }
        return quotient.get(k);
    }

    private void allOrders(String begun, List<String> into) {
        if (begun.length() == inputs) {
            into.add(begun);
            return;
        }
        for (int i = 0; i < inputs; i++) {
            if (begun.indexOf('0' + i) < 0) {
                allOrders(begun + i, into);
            }
        }
    }

    private int nodesOf(String order) {
        Map<String, Integer> nodes = new HashMap<>();
        for (int o = 0; o < outputs; o++) {
            build(order, 0, 0, o, nodes);
        }
        return nodes.size();
    }

    /** The number of the node, or 0 for FALSE and 1 for TRUE. */
    private int build(String order, int level, int assignment, int output, Map<String, Integer> nodes) {
        if (level == inputs) {
            return isOn(assignment, output) ? 1 : 0;
        }
        int input = order.charAt(level) - '0';
        int no = build(order, level + 1, assignment, output, nodes);
        int yes = build(order, level + 1, assignment | 1 << input, output, nodes);
        if (no == yes) {
            return no;
        }
        return nodes.computeIfAbsent(input + ":" + no + ":" + yes, key -> nodes.size() + 2);
    }

    int diagram(int order) {
        List<String> orders = new ArrayList<>();
        allOrders("", orders);
        if (order < 0 || order >= orders.size()) {
            throw new IllegalArgumentException();
        }
        return nodesOf(orders.get(order));
    }

    int order() {
        List<String> orders = new ArrayList<>();
        allOrders("", orders);
        int best = 0;
        for (int k = 1; k < orders.size(); k++) {
            if (diagram(k) < diagram(best)) {
                best = k;
            }
        }
        return best;
    }

    private boolean keptHas(int assignment, int output) {
        return kept.stream().anyMatch(t -> t.has(assignment, output));
    }

    boolean equal() {
        needKept();
        for (int o = 0; o < outputs; o++) {
            for (int a = 0; a < 1 << inputs; a++) {
                if (isOn(a, o) && !keptHas(a, o) || isOff(a, o) && keptHas(a, o)) {
                    return false;
                }
            }
        }
        return true;
    }

    boolean value(long input, int output) {
        needKept();
        if (output < 0 || output >= outputs) {
            throw new IndexOutOfBoundsException();
        }
        if (input < 0 || input >= 1L << inputs) {
            throw new IllegalArgumentException();
        }
        return keptHas((int) input, output);
    }

    void clear() {
        cubeDigits.clear();
        cubeKinds.clear();
        kept = null;
    }
}
