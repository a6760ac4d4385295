import java.util.ArrayList;
import java.util.List;
import java.util.function.ToLongFunction;

/**
 * The sentences on exceptions, for each method and in each state: what a call throws, that it is the one
 * named first when several would do, and that all that can be read is the same before and after it.
 */
public final class RefusedCallsTest {
    private static final Checks CHECKS = new Checks("RefusedCallsTest");
    private static final String FIRST = "Methods throw what their comments name, the one named first when several "
            + "would do.";
    private static final String NOTHING_CHANGES = "A call that throws changes nothing.";
    private static final String[] CUBES = {"000 01", "1-1 01", "--- 10"};

    private record Refused(String text, Class<? extends RuntimeException> due, ToLongFunction<CoverRows> call) {
    }

    public static void main(String[] args) {
        noSuchThing();
        noSuchNumber();
        noKeptCover();
        newObject();
        noCubesAndEmptyCover();
        cubesAlone();
        coverWithoutQuotient();
        coverAndQuotient();
        cubesThatChangedSince();
        fullOfCubes();
        cleared();
        tooLong();
        readingChangesNothing();
        CHECKS.end();
    }

    private static void noSuchThing() {
        CHECKS.sentence("IndexOutOfBoundsException: there is no such cube, input, output or term.");
        CoverRows x = Rows.of(3, 2, CUBES);
        x.run(true, 3);
        for (int n : new int[] {-1, 3}) {
            Class<IndexOutOfBoundsException> due = IndexOutOfBoundsException.class;
            CHECKS.raises("literal() of cube " + n, due, () -> Checks.bit(x.literal(n, 0, 1)));
            CHECKS.raises("to() of cube " + n, due, () -> Checks.bit(x.to(n, 0, 1)));
            CHECKS.raises("literal() of input " + n, due, () -> Checks.bit(x.literal(0, n, 1)));
            CHECKS.raises("to() of output " + n, due, () -> Checks.bit(x.to(0, n, 1)));
            CHECKS.raises("value() of output " + n, due, () -> Checks.bit(x.value(0, n)));
            CHECKS.raises("prime " + n, due, () -> x.prime(n, 0));
            CHECKS.raises("term " + n, due, () -> x.at(n, 0));
        }
        CHECKS.raises("output 2 of a prime", IndexOutOfBoundsException.class, () -> x.prime(0, 5));
        CHECKS.raises("output 2 of a term", IndexOutOfBoundsException.class, () -> x.at(0, 5));
    }

    private static void noSuchNumber() {
        CHECKS.sentence("IllegalArgumentException: a number is none such.");
        CoverRows x = Rows.of(3, 2, CUBES);
        x.run(true, 3);
        Class<IllegalArgumentException> due = IllegalArgumentException.class;
        CHECKS.raises("digit 3", due, () -> Checks.bit(x.literal(0, 0, 3)));
        CHECKS.raises("kind 3", due, () -> Checks.bit(x.to(0, 0, 3)));
        CHECKS.raises("steps -1", due, () -> x.run(true, -1));
        CHECKS.raises("no terms", due, () -> x.divide(0));
        CHECKS.raises("order 6", due, () -> x.diagram(6));
        CHECKS.raises("assignment 8", due, () -> Checks.bit(x.value(8, 0)));
    }

    private static void noKeptCover() {
        CHECKS.sentence("IllegalStateException: there is no kept cover.");
        CoverRows x = Rows.of(3, 2, CUBES);
        Class<IllegalStateException> due = IllegalStateException.class;
        for (String when : new String[] {"before any run()", "after clear()"}) {
            CHECKS.raises("at(0, 0) " + when, due, () -> x.at(0, 0));
            CHECKS.raises("cost() " + when, due, x::cost);
            CHECKS.raises("kernels() " + when, due, x::kernels);
            CHECKS.raises("divide(1) " + when, due, () -> x.divide(1));
            CHECKS.raises("equal() " + when, due, () -> Checks.bit(x.equal()));
            CHECKS.raises("value(0, 0) " + when, due, () -> Checks.bit(x.value(0, 0)));
            x.run(true, 3);
            CHECKS.same("cost() after run()", 10, x.cost());
            x.clear();
            Rows.fill(x, CUBES);
        }
    }

    private static void newObject() {
        CoverRows x = new CoverRows(3, 2);
        refuse(x, List.of(), always());
        refuse(x, List.of(), withoutCubes());
        refuse(x, List.of(), withoutCover());
        refuse(x, List.of(), withoutQuotient());
    }

    private static void noCubesAndEmptyCover() {
        CoverRows x = new CoverRows(3, 2);
        x.run(true, 0);
        refuse(x, List.of(), always());
        refuse(x, List.of(), withoutCubes());
        refuse(x, List.of(), withCover(0));
        refuse(x, List.of(), withoutQuotient());
    }

    private static void cubesAlone() {
        CoverRows x = Rows.of(3, 2, CUBES);
        refuse(x, List.of(CUBES), always());
        refuse(x, List.of(CUBES), withCubes(3, 3));
        refuse(x, List.of(CUBES), withoutCover());
        refuse(x, List.of(CUBES), withoutQuotient());
    }

    private static void coverWithoutQuotient() {
        CoverRows x = Rows.of(3, 2, CUBES);
        x.run(true, 3);
        refuse(x, List.of(CUBES), always());
        refuse(x, List.of(CUBES), withCubes(3, 3));
        refuse(x, List.of(CUBES), withCover(3));
        refuse(x, List.of(CUBES), withoutQuotient());
    }

    private static void coverAndQuotient() {
        CoverRows x = Rows.of(3, 2, CUBES);
        x.run(true, 3);
        x.divide(4);
        refuse(x, List.of(CUBES), always());
        refuse(x, List.of(CUBES), withCubes(3, 3));
        refuse(x, List.of(CUBES), withCover(3));
        refuse(x, List.of(CUBES), withQuotient(3));
        CHECKS.same("the quotient", "0 16 26", Rows.quotient(x, 3));
    }

    /** Calls are refused by what is there now: two primes of the cubes, three terms of the kept cover. */
    private static void cubesThatChangedSince() {
        CoverRows x = Rows.of(3, 2, CUBES);
        x.run(true, 3);
        x.divide(2);
        x.to(0, 1, 0);
        List<String> cubes = List.of("000 00", CUBES[1], CUBES[2]);
        refuse(x, cubes, always());
        refuse(x, cubes, withCubes(3, 2));
        refuse(x, cubes, withCover(3));
        refuse(x, cubes, withQuotient(1));
    }

    private static void fullOfCubes() {
        CoverRows x = new CoverRows(3, 2);
        List<String> cubes = new ArrayList<>();
        for (int c = 0; c < 24; c++) {
            cubes.add(c < 3 ? CUBES[c] : "01- 00");
        }
        Rows.fill(x, cubes.toArray(new String[0]));
        x.run(false, 3);
        x.divide(4);
        List<Refused> calls = new ArrayList<>();
        calls.add(new Refused("cube()", UnsupportedOperationException.class, CoverRows::cube));
        refuse(x, cubes, calls);
        refuse(x, cubes, always());
        refuse(x, cubes, withCubes(24, 3));
        refuse(x, cubes, withCover(3));
        refuse(x, cubes, withQuotient(3));
    }

    private static void cleared() {
        CoverRows x = Rows.of(3, 2, CUBES);
        x.run(true, 3);
        x.divide(4);
        x.clear();
        refuse(x, List.of(), always());
        refuse(x, List.of(), withoutCubes());
        refuse(x, List.of(), withoutCover());
        refuse(x, List.of(), withQuotient(3));
    }

    private static void tooLong() {
        CHECKS.sentence("-1 if there are more primes than steps (nothing else changes then).");
        CoverRows x = Rows.of(3, 2, CUBES);
        String before = all(x, List.of(CUBES));
        CHECKS.same("run(true, 2)", -1, x.run(true, 2));
        CHECKS.same("all after it", before, all(x, List.of(CUBES)));
        x.run(false, 3);
        x.divide(5);
        x.literal(1, 1, 0);
        List<String> cubes = List.of(CUBES[0], "101 01", CUBES[2]);
        before = all(x, cubes);
        CHECKS.same("run(true, 0)", -1, x.run(true, 0));
        CHECKS.same("run(false, 2)", -1, x.run(false, 2));
        CHECKS.same("all after it", before, all(x, cubes));
    }

    private static void readingChangesNothing() {
        CHECKS.sentence("Nothing is promised beyond the answers and state changes described above");
        CoverRows x = Rows.of(3, 2, CUBES);
        CHECKS.same("all twice", all(x, List.of(CUBES)), all(x, List.of(CUBES)));
        x.run(false, 3);
        x.divide(4);
        CHECKS.same("all twice", all(x, List.of(CUBES)), all(x, List.of(CUBES)));
    }

    private static List<Refused> always() {
        List<Refused> calls = new ArrayList<>();
        for (long steps : new long[] {-1, -3, Long.MIN_VALUE}) {
            calls.add(new Refused("run(true, " + steps + ")", IllegalArgumentException.class,
                    x -> x.run(true, steps)));
            calls.add(new Refused("run(false, " + steps + ")", IllegalArgumentException.class,
                    x -> x.run(false, steps)));
        }
        for (int order : new int[] {-1, 6, Integer.MIN_VALUE, Integer.MAX_VALUE}) {
            calls.add(new Refused("diagram(" + order + ")", IllegalArgumentException.class, x -> x.diagram(order)));
        }
        return calls;
    }

    private static List<Refused> withoutCubes() {
        return withCubes(0, 0);
    }

    private static List<Refused> withCubes(int cubes, int primes) {
        List<Refused> calls = new ArrayList<>();
        for (int cube : new int[] {-1, cubes, 24, Integer.MIN_VALUE, Integer.MAX_VALUE}) {
            for (int v = -1; v <= 3; v++) {
                addLiteral(calls, cube, 0, v, IndexOutOfBoundsException.class);
                addLiteral(calls, cube, 3, v, IndexOutOfBoundsException.class);
                addTo(calls, cube, 0, v, IndexOutOfBoundsException.class);
                addTo(calls, cube, 2, v, IndexOutOfBoundsException.class);
            }
        }
        for (int cube = 0; cube < cubes; cube++) {
            for (int v = -1; v <= 3; v++) {
                addLiteral(calls, cube, -1, v, IndexOutOfBoundsException.class);
                addLiteral(calls, cube, 3, v, IndexOutOfBoundsException.class);
                addTo(calls, cube, -1, v, IndexOutOfBoundsException.class);
                addTo(calls, cube, 2, v, IndexOutOfBoundsException.class);
            }
            for (int v : new int[] {-1, 3}) {
                addLiteral(calls, cube, cube % 3, v, IllegalArgumentException.class);
                addTo(calls, cube, cube % 2, v, IllegalArgumentException.class);
            }
        }
        for (int[] n : new int[][] {{-1, 0}, {primes, 0}, {0, -1}, {0, 5}, {primes, 5}}) {
            calls.add(new Refused("prime(" + n[0] + ", " + n[1] + ")", IndexOutOfBoundsException.class,
                    x -> x.prime(n[0], n[1])));
        }
        return calls;
    }

    private static void addLiteral(List<Refused> calls, int cube, int input, int v,
            Class<? extends RuntimeException> due) {
        calls.add(new Refused("literal(" + cube + ", " + input + ", " + v + ")", due,
                x -> Checks.bit(x.literal(cube, input, v))));
    }

    private static void addTo(List<Refused> calls, int cube, int output, int kind,
            Class<? extends RuntimeException> due) {
        calls.add(new Refused("to(" + cube + ", " + output + ", " + kind + ")", due,
                x -> Checks.bit(x.to(cube, output, kind))));
    }

    private static List<Refused> withoutCover() {
        List<Refused> calls = new ArrayList<>();
        calls.add(new Refused("cost()", IllegalStateException.class, CoverRows::cost));
        calls.add(new Refused("kernels()", IllegalStateException.class, CoverRows::kernels));
        calls.add(new Refused("equal()", IllegalStateException.class, x -> Checks.bit(x.equal())));
        for (int n : new int[] {0, 1, -1, 8, Integer.MIN_VALUE, Integer.MAX_VALUE}) {
            calls.add(new Refused("divide(" + n + ")", IllegalStateException.class, x -> x.divide(n)));
            calls.add(new Refused("at(" + n + ", 0)", IllegalStateException.class, x -> x.at(n, 0)));
            calls.add(new Refused("at(0, " + n + ")", IllegalStateException.class, x -> x.at(0, n)));
            addValue(calls, n, 0, IllegalStateException.class);
            addValue(calls, 0, n, IllegalStateException.class);
            addValue(calls, n, n, IllegalStateException.class);
        }
        return calls;
    }

    private static List<Refused> withCover(int terms) {
        List<Refused> calls = new ArrayList<>();
        for (int[] n : new int[][] {{-1, 0}, {terms, 0}, {0, -1}, {0, 5}, {terms, 5}}) {
            calls.add(new Refused("at(" + n[0] + ", " + n[1] + ")", IndexOutOfBoundsException.class,
                    x -> x.at(n[0], n[1])));
        }
        for (int set : new int[] {0, 1 << terms, (1 << terms) + 1, -1, 1 << 31, (1 << 31) + 1}) {
            calls.add(new Refused("divide(" + set + ")", IllegalArgumentException.class, x -> x.divide(set)));
        }
        for (long input : new long[] {-1, 8, 1L << 32, Long.MIN_VALUE}) {
            addValue(calls, input, 0, IllegalArgumentException.class);
            addValue(calls, input, 1, IllegalArgumentException.class);
            addValue(calls, input, -1, IndexOutOfBoundsException.class);
            addValue(calls, input, 2, IndexOutOfBoundsException.class);
        }
        addValue(calls, 0, -1, IndexOutOfBoundsException.class);
        addValue(calls, 7, 2, IndexOutOfBoundsException.class);
        return calls;
    }

    private static void addValue(List<Refused> calls, long input, int output, Class<? extends RuntimeException> due) {
        calls.add(new Refused("value(" + input + ", " + output + ")", due,
                x -> Checks.bit(x.value(input, output))));
    }

    private static List<Refused> withoutQuotient() {
        return withQuotient(0);
    }

    private static List<Refused> withQuotient(int products) {
        List<Refused> calls = new ArrayList<>();
        for (int k : new int[] {-1, products, 27, Integer.MIN_VALUE, Integer.MAX_VALUE}) {
            calls.add(new Refused("quotient(" + k + ")", IndexOutOfBoundsException.class, x -> x.quotient(k)));
        }
        return calls;
    }

    private static void refuse(CoverRows x, List<String> cubes, List<Refused> calls) {
        String before = all(x, cubes);
        CHECKS.yes("the cubes are those told", before.endsWith(" cubes true"));
        for (Refused refused : calls) {
            CHECKS.sentence(FIRST);
            CHECKS.raises(refused.text, refused.due, () -> refused.call.applyAsLong(x));
            CHECKS.sentence(NOTHING_CHANGES);
            CHECKS.same("all after " + refused.text, before, all(x, cubes));
        }
    }

    /** All that can be read of three inputs and two outputs, and whether the cubes are the ones told. */
    private static String all(CoverRows x, List<String> cubes) {
        StringBuilder text = new StringBuilder("primes " + x.primes());
        for (int k = 0; k < x.primes(); k++) {
            for (int i = 0; i < 5; i++) {
                text.append(' ').append(x.prime(k, i));
            }
        }
        text.append(" tautology ").append(x.tautology()).append(" nodes");
        for (int order = 0; order < 6; order++) {
            text.append(' ').append(x.diagram(order));
        }
        text.append(" order ").append(x.order());
        addKept(text, x);
        return text.append(" cubes ").append(cubesAre(x, cubes)).toString();
    }

    private static void addKept(StringBuilder text, CoverRows x) {
        text.append(" cost ").append(Checks.outcome(x::cost));
        text.append(" kernels ").append(Checks.outcome(x::kernels));
        text.append(" equal ").append(Checks.outcome(() -> Checks.bit(x.equal())));
        for (int n = 0; n < 25; n++) {
            int place = n;
            text.append(' ').append(Checks.outcome(() -> x.at(place / 5, place % 5)));
        }
        for (int n = 0; n < 16; n++) {
            int place = n;
            text.append(' ').append(Checks.outcome(() -> Checks.bit(x.value(place / 2, place % 2))));
        }
        for (int n = 0; n < 5; n++) {
            int place = n;
            text.append(' ').append(Checks.outcome(() -> x.quotient(place)));
        }
    }

    /** Setting what is there already changes nothing, and answers that it is there. */
    private static boolean cubesAre(CoverRows x, List<String> cubes) {
        boolean same = true;
        for (int c = 0; c < cubes.size(); c++) {
            for (int i = 0; i < 3; i++) {
                char digit = cubes.get(c).charAt(i);
                same &= !x.literal(c, i, digit == '-' ? 2 : digit - '0');
            }
            for (int o = 0; o < 2; o++) {
                same &= !x.to(c, o, cubes.get(c).charAt(4 + o) - '0');
            }
        }
        int behind = cubes.size();
        return same && Checks.outcome(() -> Checks.bit(x.literal(behind, 0, 2))).equals("IndexOutOfBoundsException");
    }
}
