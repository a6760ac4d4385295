/** Each sentence of promises 1 to 18, at the edges that it names: too few, too many, none, all, wrap-arounds. */
public final class PromiseSentencesTest {
    private static final Checks CHECKS = new Checks("PromiseSentencesTest");
    /** Six primes in a ring: the least cover has three of them, the quick one four. */
    private static final String[] RING = {"0-1 1", "1-0 1", "01- 1", "10- 1", "-01 1", "-10 1"};
    /** One output is parity, the other one its other: no term has two assignments, or two outputs. */
    private static final String SIXTEEN_TERMS = "01101001100101101001011001101001";
    private static final int[] FAR = {Integer.MIN_VALUE, Integer.MIN_VALUE + 1, 1 << 30, 1 << 16, -(1 << 16),
        Integer.MAX_VALUE};

    public static void main(String[] args) {
        newObjects();
        newCube();
        twentyFourCubes();
        literalAnswers();
        literalIndices();
        literalDigits();
        toAnswers();
        toIndices();
        toKinds();
        primesCount();
        primeColumns();
        primeIndices();
        runAnswers();
        runTooLong();
        runBelowZero();
        atAnswers();
        atWithoutCover();
        atIndices();
        tautologies();
        costs();
        kernels();
        divideAnswers();
        divideIsKept();
        divideSets();
        quotientNumbers();
        quotientIndices();
        diagramNodes();
        diagramOrders();
        orders();
        equals();
        values();
        valueArguments();
        clears();
        manyCalls();
        CHECKS.end();
    }

    private static CoverRows ranOn(boolean exact, int inputs, int outputs, String... cubes) {
        CoverRows x = Rows.of(inputs, outputs, cubes);
        x.run(exact, Long.MAX_VALUE);
        return x;
    }

    private static void newObjects() {
        CHECKS.sentence("1: So many inputs and outputs (the nearest there can be), no cubes.");
        for (int inputs : new int[] {Integer.MIN_VALUE, -1, 0, 1, 2, 3, 4, 5, 6, 1 << 16, Integer.MAX_VALUE}) {
            for (int outputs : new int[] {Integer.MIN_VALUE, -1, 0, 1, 2, 3, 4, 1 << 16, Integer.MAX_VALUE}) {
                CoverRows x = new CoverRows(inputs, outputs);
                String made = "new CoverRows(" + inputs + ", " + outputs + "): ";
                int in = inputs < 1 ? 1 : inputs > 4 ? 4 : inputs;
                int out = outputs < 1 ? 1 : outputs > 2 ? 2 : outputs;
                CHECKS.raises(made + "to(0, 0, 1)", IndexOutOfBoundsException.class, () -> Checks.bit(x.to(0, 0, 1)));
                CHECKS.same(made + "primes()", 0, x.primes());
                CHECKS.same(made + "cube()", 0, x.cube());
                CHECKS.same(made + "inputs", in, places(i -> Checks.bit(x.literal(0, i, 2))));
                CHECKS.same(made + "outputs", out, places(o -> Checks.bit(x.to(0, o, 0))));
            }
        }
    }

    private interface Place {
        long answer(int place);
    }

    /** How many places from 0 on are taken. */
    private static int places(Place place) {
        int n = 0;
        while (n < 9 && !isRefused(place, n)) {
            n++;
        }
        return n;
    }

    private static boolean isRefused(Place place, int n) {
        return Checks.outcome(() -> place.answer(n)).equals("IndexOutOfBoundsException");
    }

    private static void newCube() {
        CHECKS.sentence("2: A new cube, all free, NOTHING for all: its number.");
        CoverRows x = new CoverRows(4, 2);
        CHECKS.same("the first one", 0, x.cube());
        CHECKS.same("NOTHING is had", 0, x.primes());
        for (int i = 0; i < 4; i++) {
            CHECKS.no("digit " + i + " is free", x.literal(0, i, 2));
        }
        for (int o = 0; o < 2; o++) {
            CHECKS.no("NOTHING for " + o, x.to(0, o, 0));
        }
        x.literal(0, 3, 1);
        x.to(0, 1, 1);
        CHECKS.same("the second one", 1, x.cube());
        CHECKS.no("is free too", x.literal(1, 3, 2));
        CHECKS.no("NOTHING too", x.to(1, 1, 0));
        CHECKS.no("the first one is as it was", x.literal(0, 3, 1) || x.to(0, 1, 1));
    }

    private static void twentyFourCubes() {
        CHECKS.sentence("2: UnsupportedOperationException: there are 24.");
        CoverRows x = new CoverRows(1, 1);
        for (int c = 0; c < 24; c++) {
            CHECKS.same("cube()", c, x.cube());
        }
        CHECKS.raises("the 25th", UnsupportedOperationException.class, x::cube);
        CHECKS.raises("the 25th again", UnsupportedOperationException.class, x::cube);
        CHECKS.raises("there is none", IndexOutOfBoundsException.class, () -> Checks.bit(x.literal(24, 0, 1)));
        CHECKS.yes("the last one is there", x.literal(23, 0, 1));
        x.clear();
        CHECKS.same("after clear()", 0, x.cube());
    }

    private static void literalAnswers() {
        CHECKS.sentence("3: A digit of a cube: whether it was another one.");
        for (int was = 0; was <= 2; was++) {
            for (int v = 0; v <= 2; v++) {
                for (int i = 0; i < 4; i++) {
                    CoverRows x = new CoverRows(4, 2);
                    x.cube();
                    x.literal(0, i, was);
                    CHECKS.same(was + ", then " + v, Checks.bit(was != v), Checks.bit(x.literal(0, i, v)));
                    CHECKS.no("it is " + v + " now", x.literal(0, i, v));
                    CHECKS.no("the next one is free", x.literal(0, (i + 1) % 4, 2));
                }
            }
        }
    }

    private static void literalIndices() {
        CHECKS.sentence("3: IndexOutOfBoundsException;");
        CoverRows x = Rows.of(3, 2, "--- 11", "--- 11");
        int[][] noSuch = {{-1, 0}, {2, 0}, {23, 0}, {24, 0}, {0, -1}, {0, 3}, {0, 4}, {1, -3}, {-1, 3}};
        for (int[] n : noSuch) {
            noLiteral(x, n[0], n[1]);
        }
        for (int far : FAR) {
            noLiteral(x, far, 0);
            noLiteral(x, 0, far);
        }
    }

    private static void noLiteral(CoverRows x, int cube, int input) {
        for (int v : new int[] {0, 1, 2, -1, 3}) {
            CHECKS.raises("literal(" + cube + ", " + input + ", " + v + ")", IndexOutOfBoundsException.class,
                    () -> Checks.bit(x.literal(cube, input, v)));
        }
    }

    private static void literalDigits() {
        CHECKS.sentence("3: IllegalArgumentException: v is not 0 .. 2.");
        CoverRows x = Rows.of(3, 1, "--- 1");
        for (int v : new int[] {-2, -1, 3, 4, Integer.MIN_VALUE, 1 << 16, Integer.MAX_VALUE}) {
            CHECKS.raises("literal(0, 2, " + v + ")", IllegalArgumentException.class,
                    () -> Checks.bit(x.literal(0, 2, v)));
        }
        CHECKS.no("it is free as before", x.literal(0, 2, 2));
    }

    private static void toAnswers() {
        CHECKS.sentence("4: What a cube is for an output: whether it was another thing.");
        for (int was = 0; was <= 2; was++) {
            for (int kind = 0; kind <= 2; kind++) {
                for (int o = 0; o < 2; o++) {
                    CoverRows x = new CoverRows(4, 2);
                    x.cube();
                    x.cube();
                    x.to(0, o, was);
                    CHECKS.same(was + ", then " + kind, Checks.bit(was != kind), Checks.bit(x.to(0, o, kind)));
                    CHECKS.no("it is " + kind + " now", x.to(0, o, kind));
                    CHECKS.no("NOTHING for the other output", x.to(0, 1 - o, 0));
                    CHECKS.no("the next one is NOTHING", x.to(1, o, 0));
                }
            }
        }
    }

    private static void toIndices() {
        CHECKS.sentence("4: IndexOutOfBoundsException;");
        CoverRows two = Rows.of(3, 2, "--- 11", "--- 11");
        int[][] noSuch = {{-1, 0}, {2, 0}, {23, 0}, {24, 0}, {0, -1}, {0, 2}, {1, -2}, {-1, 2}, {1, 3}};
        for (int[] n : noSuch) {
            noTo(two, n[0], n[1]);
        }
        for (int far : FAR) {
            noTo(two, far, 0);
            noTo(two, 0, far);
        }
        noTo(Rows.of(3, 1, "--- 1", "--- 1"), 0, 1);
    }

    private static void noTo(CoverRows x, int cube, int output) {
        for (int kind : new int[] {0, 1, 2, -1, 3}) {
            CHECKS.raises("to(" + cube + ", " + output + ", " + kind + ")", IndexOutOfBoundsException.class,
                    () -> Checks.bit(x.to(cube, output, kind)));
        }
    }

    private static void toKinds() {
        CHECKS.sentence("4: IllegalArgumentException: kind is not 0 .. 2.");
        CoverRows x = Rows.of(3, 2, "--- 02");
        for (int kind : new int[] {-2, -1, 3, 4, Integer.MIN_VALUE, 1 << 16, Integer.MAX_VALUE}) {
            CHECKS.raises("to(0, 1, " + kind + ")", IllegalArgumentException.class, () -> Checks.bit(x.to(0, 1, kind)));
        }
        CHECKS.no("it is DON'T-CARE as before", x.to(0, 1, 2));
    }

    private static void primesCount() {
        CHECKS.sentence("5: How many primes there are.");
        CoverRows x = new CoverRows(4, 2);
        CHECKS.same("without cubes", 0, x.primes());
        x.cube();
        CHECKS.same("with NOTHING", 0, x.primes());
        x.to(0, 0, 2);
        CHECKS.same("with all don't-care for one", 1, x.primes());
        x.to(0, 1, 1);
        CHECKS.same("with all for both", 1, x.primes());
        x.literal(0, 0, 1);
        CHECKS.same("with a half", 1, x.primes());
        x.clear();
        CHECKS.same("after clear()", 0, x.primes());
        CHECKS.same("sixteen that are apart", 16, Rows.ofTable(4, 2, SIXTEEN_TERMS).primes());
    }

    private static void primeColumns() {
        CHECKS.sentence("6: Digit i of prime k; for i behind the inputs whether (1) it has output i less the inputs.");
        CHECKS.same("columns", "011- 11, 01-- 10, -11- 01",
                Rows.primes(Rows.of(4, 2, "01-- 10", "-11- 01"), 4, 2));
        CHECKS.same("one input", "0 11, - 10", Rows.primes(Rows.of(1, 2, "- 10", "0 01"), 1, 2));
        CHECKS.same("one input and output", "1 1", Rows.primes(Rows.of(1, 1, "1 2"), 1, 1));
    }

    private static void primeIndices() {
        CHECKS.sentence("6: IndexOutOfBoundsException.");
        CoverRows none = new CoverRows(4, 2);
        CHECKS.raises("prime(0, 0) of none", IndexOutOfBoundsException.class, () -> none.prime(0, 0));
        CoverRows x = Rows.of(3, 1, RING);
        int[][] noSuch = {{-1, 0}, {6, 0}, {0, -1}, {0, 4}, {5, 4}, {6, 4}, {-1, -1}};
        for (int[] n : noSuch) {
            noColumn("prime", x::prime, n[0], n[1]);
        }
        for (int far : FAR) {
            noColumn("prime", x::prime, far, 0);
            noColumn("prime", x::prime, 0, far);
        }
        CHECKS.same("the last column of the last one", 1, x.prime(5, 3));
        x.clear();
        noColumn("prime", x::prime, 0, 0);
    }

    private interface Column {
        int answer(int k, int i);
    }

    private static void noColumn(String name, Column column, int k, int i) {
        CHECKS.raises(name + "(" + k + ", " + i + ")", IndexOutOfBoundsException.class, () -> column.answer(k, i));
    }

    private static void runAnswers() {
        CHECKS.sentence("7: The least cover (exact) or the quick one is kept: how many terms it has;");
        CoverRows x = Rows.of(3, 1, RING);
        CHECKS.same("the least one", 3, x.run(true, 6));
        CHECKS.same("is kept", "01- 1, 1-0 1, -01 1", Rows.kept(x, 3, 3, 1));
        CHECKS.same("the quick one", 4, x.run(false, 6));
        CHECKS.same("is kept", "01- 1, 0-1 1, 10- 1, 1-0 1", Rows.kept(x, 4, 3, 1));
        x.clear();
        CHECKS.same("of no primes", 0, x.run(true, 0));
        CHECKS.same("of no primes", 0, x.run(false, 0));
        CoverRows most = Rows.ofTable(4, 2, SIXTEEN_TERMS);
        CHECKS.same("sixteen terms", 16, most.run(true, 16));
        CHECKS.same("sixteen terms", 16, most.run(false, 16));
    }

    private static void runTooLong() {
        CHECKS.sentence("7: -1 if there are more primes than steps (nothing else changes then).");
        CHECKS.same("NONE", -1, CoverRows.NONE);
        CoverRows x = Rows.of(3, 1, RING);
        for (boolean exact : new boolean[] {true, false}) {
            for (long steps = 0; steps < 6; steps++) {
                CHECKS.same("run(" + exact + ", " + steps + ")", -1, x.run(exact, steps));
                CHECKS.raises("nothing is kept", IllegalStateException.class, x::kernels);
            }
        }
        for (long steps : new long[] {6, 7, 1L << 31, 1L << 32, (1L << 32) + 1, Long.MAX_VALUE}) {
            CHECKS.same("run(true, " + steps + ")", 3, x.run(true, steps));
            CHECKS.same("run(false, " + steps + ")", 4, x.run(false, steps));
        }
        x.divide(1);
        String before = Rows.quotient(x, 1);
        CHECKS.same("run(true, 5)", -1, x.run(true, 5));
        CHECKS.same("the kept cover is the same", "01- 1, 0-1 1, 10- 1, 1-0 1", Rows.kept(x, 4, 3, 1));
        CHECKS.same("the quotient is the same", before, Rows.quotient(x, 1));
        CHECKS.same("the primes are the same", 6, x.primes());
        CoverRows one = Rows.of(3, 1, "--- 2");
        CHECKS.same("one prime of don't-cares, no steps", -1, one.run(true, 0));
        CHECKS.same("one prime of don't-cares, one step", 0, one.run(true, 1));
    }

    private static void runBelowZero() {
        CHECKS.sentence("7: IllegalArgumentException: steps are below 0.");
        CoverRows full = Rows.of(3, 1, RING);
        for (long steps : new long[] {-1, -2, Integer.MIN_VALUE, -(1L << 32), Long.MIN_VALUE, Long.MIN_VALUE + 6}) {
            for (boolean exact : new boolean[] {true, false}) {
                CHECKS.raises("run(" + exact + ", " + steps + ")", IllegalArgumentException.class,
                        () -> full.run(exact, steps));
                CHECKS.raises("run(" + exact + ", " + steps + ") of nothing", IllegalArgumentException.class,
                        () -> new CoverRows(1, 1).run(exact, steps));
            }
        }
        CHECKS.raises("nothing is kept", IllegalStateException.class, full::cost);
        CHECKS.same("0 is not below 0", 0, new CoverRows(1, 1).run(true, 0));
    }

    private static void atAnswers() {
        CHECKS.sentence("8: Digit i of kept term k, by rising numbers, as for prime().");
        CoverRows x = Rows.of(4, 2, "-11- 01", "01-- 10", "0010 11");
        CHECKS.same("kept", "01-- 10, 0-10 11, -11- 01", Rows.run(x, true, 4, 2));
        CoverRows ring = Rows.of(3, 1, RING);
        CHECKS.same("not as they came", "01- 1, 0-1 1, 10- 1, 1-0 1", Rows.run(ring, false, 3, 1));
    }

    private static void atWithoutCover() {
        CHECKS.sentence("8: IllegalStateException;");
        CoverRows x = Rows.of(3, 1, RING);
        for (int k : new int[] {0, -1, 6, Integer.MIN_VALUE, Integer.MAX_VALUE}) {
            for (int i : new int[] {0, -1, 4, Integer.MIN_VALUE, Integer.MAX_VALUE}) {
                CHECKS.raises("at(" + k + ", " + i + ")", IllegalStateException.class, () -> x.at(k, i));
            }
        }
    }

    private static void atIndices() {
        CHECKS.sentence("8: IndexOutOfBoundsException.");
        CoverRows x = ranOn(true, 3, 1, RING);
        int[][] noSuch = {{-1, 0}, {3, 0}, {5, 0}, {0, -1}, {0, 4}, {2, 4}, {3, 4}, {-1, -1}};
        for (int[] n : noSuch) {
            noColumn("at", x::at, n[0], n[1]);
        }
        for (int far : FAR) {
            noColumn("at", x::at, far, 0);
            noColumn("at", x::at, 0, far);
        }
        CHECKS.same("the last column of the last one", 1, x.at(2, 3));
        noColumn("at", ranOn(true, 3, 1)::at, 0, 0);
    }

    private static void tautologies() {
        CHECKS.sentence("9: Whether no assignment is OFF for any output.");
        for (int inputs = 1; inputs <= 4; inputs++) {
            CHECKS.no("all are OFF", new CoverRows(inputs, 1).tautology());
            CHECKS.no("all are OFF for one", Rows.of(inputs, 2, "-".repeat(inputs) + " 10").tautology());
            CHECKS.no("all are OFF for one", Rows.of(inputs, 2, "-".repeat(inputs) + " 02").tautology());
            CHECKS.yes("none is OFF", Rows.of(inputs, 2, "-".repeat(inputs) + " 12").tautology());
            int all = (1 << (1 << inputs)) - 1;
            CHECKS.yes("none is OFF", Rows.ofMask(inputs, all).tautology());
            for (int a = 0; a < 1 << inputs; a++) {
                CHECKS.no(a + " is OFF", Rows.ofMask(inputs, all & ~(1 << a)).tautology());
            }
        }
    }

    private static void costs() {
        CHECKS.sentence("10: The sum of costs of the kept cover. IllegalStateException.");
        CHECKS.raises("cost() without one", IllegalStateException.class, () -> Rows.of(3, 1, RING).cost());
        CHECKS.same("no terms", 0, ranOn(true, 4, 2).cost());
        CHECKS.same("all free", 1, ranOn(true, 4, 2, "---- 10").cost());
        CHECKS.same("three terms", 9, ranOn(true, 3, 1, RING).cost());
        CHECKS.same("four terms", 12, ranOn(false, 3, 1, RING).cost());
        CoverRows most = Rows.ofTable(4, 2, SIXTEEN_TERMS);
        most.run(true, 16);
        CHECKS.same("sixteen terms", 80, most.cost());
        most.clear();
        CHECKS.raises("cost() after clear()", IllegalStateException.class, most::cost);
    }

    private static void kernels() {
        CHECKS.sentence("11: How many different kernels the kept cover's sum has. IllegalStateException.");
        CHECKS.raises("kernels() without one", IllegalStateException.class, () -> Rows.of(3, 1, RING).kernels());
        CHECKS.same("no terms", 0, ranOn(true, 4, 2).kernels());
        CHECKS.same("one term", 0, ranOn(true, 4, 2, "---- 11").kernels());
        CHECKS.same("each once", 3, ranOn(true, 4, 1, "1-1- 1", "1--1 1", "-11- 1", "-1-1 1").kernels());
        CoverRows most = Rows.ofTable(4, 2, "10010110011010010111100211200210");
        most.run(false, 99);
        CHECKS.same("the most that were found", 41, most.kernels());
        most.clear();
        CHECKS.raises("kernels() after clear()", IllegalStateException.class, most::kernels);
    }

    private static void divideAnswers() {
        CHECKS.sentence("12: The quotient of the kept cover's sum by the products of these kept terms (bit k for term "
                + "k): how many products it has;");
        CoverRows x = ranOn(true, 3, 2, "--- 10", "000 01", "1-1 01");
        int[] sizes = {1, 1, 1, 3, 1, 1, 1};
        for (int set = 1; set <= 7; set++) {
            CHECKS.same("divide(" + set + ")", sizes[set - 1], x.divide(set));
        }
        CoverRows most = Rows.ofTable(4, 2, SIXTEEN_TERMS);
        most.run(true, 16);
        CHECKS.same("by the last of sixteen", 1, most.divide(1 << 15));
        CHECKS.same("by all sixteen", 1, most.divide((1 << 16) - 1));
        CoverRows nine = Rows.ofTable(4, 2, "10010110011010111122221121122222");
        int terms = nine.run(true, 99);
        CHECKS.same("by the one that is all free", 9, nine.divide(1 << (terms - 1)));
    }

    private static void divideIsKept() {
        CHECKS.sentence("12: it is kept till the next run().");
        CoverRows x = ranOn(true, 3, 2, "--- 10", "000 01", "1-1 01");
        x.divide(4);
        x.divide(1);
        CHECKS.same("the latest one", "26", Rows.quotient(x, 1));
        x.divide(4);
        x.kernels();
        x.primes();
        x.order();
        x.cube();
        x.literal(0, 0, 1);
        x.to(1, 1, 0);
        CHECKS.same("other calls leave it", "0 16 26", Rows.quotient(x, 3));
        CHECKS.same("a run() that is too long leaves it", -1, x.run(true, 0));
        CHECKS.same("as it was", "0 16 26", Rows.quotient(x, 3));
        x.clear();
        CHECKS.same("clear() is no run()", "0 16 26", Rows.quotient(x, 3));
        x.run(false, 0);
        CHECKS.raises("a run() ends it", IndexOutOfBoundsException.class, () -> x.quotient(0));
    }

    private static void divideSets() {
        CHECKS.sentence("12: IllegalStateException; IllegalArgumentException: set is 0, or has a bit of none.");
        CoverRows before = Rows.of(3, 1, RING);
        for (int set : new int[] {0, 1, -1, 1 << 31}) {
            CHECKS.raises("divide(" + set + ") without one", IllegalStateException.class, () -> before.divide(set));
        }
        CoverRows none = ranOn(true, 4, 2);
        CoverRows three = ranOn(true, 3, 1, RING);
        CoverRows sixteen = Rows.ofTable(4, 2, SIXTEEN_TERMS);
        sixteen.run(true, 16);
        badSets(none, 0);
        badSets(three, 3);
        badSets(sixteen, 16);
        for (int k = 0; k < 3; k++) {
            CHECKS.same("divide(1 << " + k + ")", 1, three.divide(1 << k));
        }
    }

    private static void badSets(CoverRows x, int terms) {
        CHECKS.raises("divide(0) of " + terms, IllegalArgumentException.class, () -> x.divide(0));
        CHECKS.raises("divide(-1) of " + terms, IllegalArgumentException.class, () -> x.divide(-1));
        for (int k = terms; k < 32; k++) {
            int bit = 1 << k;
            CHECKS.raises("bit " + k + " of " + terms, IllegalArgumentException.class, () -> x.divide(bit));
            CHECKS.raises("bits 0 and " + k + " of " + terms, IllegalArgumentException.class, () -> x.divide(bit | 1));
        }
    }

    private static void quotientNumbers() {
        CHECKS.sentence("13: The number of product k (by rising numbers) of the latest quotient.");
        CoverRows x = ranOn(true, 4, 2, "---- 10", "-11- 01", "0000 01", "1--1 01");
        CHECKS.same("divide(8)", 4, x.divide(8));
        CHECKS.same("the lowest number to the highest", "0 52 68 80", Rows.quotient(x, 4));
    }

    private static void quotientIndices() {
        CHECKS.sentence("13: IndexOutOfBoundsException: also without one.");
        CoverRows x = Rows.of(3, 2, "--- 10", "000 01", "1-1 01");
        CHECKS.raises("before any run()", IndexOutOfBoundsException.class, () -> x.quotient(0));
        x.run(true, 3);
        CHECKS.raises("before any divide()", IndexOutOfBoundsException.class, () -> x.quotient(0));
        x.divide(4);
        for (int k : new int[] {-1, 3, 26, 80, 81, Integer.MIN_VALUE, 1 << 16, Integer.MAX_VALUE}) {
            CHECKS.raises("quotient(" + k + ")", IndexOutOfBoundsException.class, () -> x.quotient(k));
        }
        CHECKS.same("the last one", 26, x.quotient(2));
        x.divide(1);
        CHECKS.raises("a shorter one has no more", IndexOutOfBoundsException.class, () -> x.quotient(1));
        x.run(true, 3);
        CHECKS.raises("after run()", IndexOutOfBoundsException.class, () -> x.quotient(0));
    }

    private static void diagramNodes() {
        CHECKS.sentence("14: How many nodes the diagram of what is ON has.");
        CoverRows x = Rows.of(3, 2, "111 10", "-11 01");
        int[] nodes = {3, 3, 4, 5, 4, 5};
        for (int k = 0; k < 6; k++) {
            CHECKS.same("diagram(" + k + ")", nodes[k], x.diagram(k));
        }
        x.to(1, 1, 2);
        CHECKS.same("a don't-care is not ON", 3, x.diagram(5));
        x.to(0, 0, 2);
        CHECKS.same("nothing is ON", 0, x.diagram(5));
        x.clear();
        CHECKS.same("without cubes", 0, x.diagram(5));
    }

    private static void diagramOrders() {
        CHECKS.sentence("14: IllegalArgumentException: there is no such order.");
        int[] many = {1, 2, 6, 24};
        for (int inputs = 1; inputs <= 4; inputs++) {
            CoverRows x = Rows.of(inputs, 1, "1".repeat(inputs) + " 1");
            int behind = many[inputs - 1];
            CHECKS.same("the first order", inputs, x.diagram(0));
            CHECKS.same("the last order", inputs, x.diagram(behind - 1));
            for (int order : new int[] {-1, behind, behind + 1, 120, 1 << 16, Integer.MIN_VALUE, Integer.MAX_VALUE}) {
                CHECKS.raises("diagram(" + order + ")", IllegalArgumentException.class, () -> x.diagram(order));
            }
        }
    }

    private static void orders() {
        CHECKS.sentence("15: The order with the fewest nodes; of several the first one.");
        CHECKS.same("without cubes", 0, new CoverRows(4, 2).order());
        CHECKS.same("one input", 0, Rows.of(1, 1, "1 1").order());
        CHECKS.same("all are alike", 0, Rows.ofMask(4, 0b0110100110010110).order());
        CHECKS.same("the first one is the best", 0, Rows.of(4, 1, "11-- 1", "--11 1").order());
        CHECKS.same("the first one of those in the middle", 2, Rows.of(4, 1, "1-1- 1", "-1-1 1").order());
        CHECKS.same("the last one but one", 4, Rows.of(3, 1, "1-0 1", "-11 1").order());
        CHECKS.same("the last one", 1, Rows.of(2, 2, "1- 10", "11 01").order());
        CHECKS.same("what is ON counts", 0, Rows.of(2, 2, "1- 20", "11 01").order());
    }

    private static void equals() {
        CHECKS.sentence("16: Whether the kept cover has, for each output, all that is ON now, and nothing that is OFF "
                + "now. IllegalStateException.");
        CoverRows x = Rows.of(2, 2, "1- 11", "00 00");
        CHECKS.raises("equal() without one", IllegalStateException.class, () -> Checks.bit(x.equal()));
        x.run(true, 1);
        CHECKS.yes("just that", x.equal());
        for (int o = 0; o < 2; o++) {
            x.to(1, o, 1);
            CHECKS.no("one more is ON for " + o, x.equal());
            x.to(1, o, 2);
            CHECKS.yes("one more don't-care for " + o, x.equal());
            x.to(1, o, 0);
            x.to(0, o, 2);
            CHECKS.yes("all are don't-cares for " + o, x.equal());
            x.to(0, o, 0);
            CHECKS.no("all are OFF for " + o, x.equal());
            x.to(0, o, 1);
        }
        x.literal(0, 1, 1);
        CHECKS.no("one less is ON", x.equal());
        x.clear();
        CHECKS.raises("equal() after clear()", IllegalStateException.class, () -> Checks.bit(x.equal()));
        x.run(true, 0);
        CHECKS.yes("nothing of nothing", x.equal());
        CHECKS.yes("two outputs, both by several cubes", ranOn(true, 2, 2, "1- 11", "-1 11", "00 10").equal());
    }

    private static void values() {
        CHECKS.sentence("17: Whether the kept cover has an assignment for an output.");
        CoverRows x = ranOn(true, 4, 2, "1111 10", "0000 01");
        for (int a = 0; a < 16; a++) {
            CHECKS.same("value(" + a + ", 0)", Checks.bit(a == 15), Checks.bit(x.value(a, 0)));
            CHECKS.same("value(" + a + ", 1)", Checks.bit(a == 0), Checks.bit(x.value(a, 1)));
        }
        CHECKS.no("nothing is had", ranOn(true, 1, 1).value(0, 0));
        CHECKS.yes("don't-cares that are had", ranOn(true, 1, 1, "0 1", "1 2").value(1, 0));
        x.to(0, 0, 0);
        CHECKS.yes("the kept one, not the cubes", x.value(15, 0));
    }

    private static void valueArguments() {
        CHECKS.sentence("17: IllegalStateException; IndexOutOfBoundsException; IllegalArgumentException: there is no "
                + "such assignment.");
        long[] inputs = {-1, 8, 16, 1L << 31, 1L << 32, (1L << 32) + 1, 1L << 63, Long.MAX_VALUE};
        int[] outputs = {-1, 2, 31, 32, Integer.MIN_VALUE, Integer.MAX_VALUE};
        CoverRows before = Rows.of(3, 2, "--- 11");
        CoverRows x = ranOn(true, 3, 2, "--- 11");
        for (long input : inputs) {
            CHECKS.raises("value(" + input + ", 0) without one", IllegalStateException.class,
                    () -> Checks.bit(before.value(input, 0)));
            CHECKS.raises("value(" + input + ", 1)", IllegalArgumentException.class,
                    () -> Checks.bit(x.value(input, 1)));
            for (int output : outputs) {
                CHECKS.raises("value(" + input + ", " + output + ") without one", IllegalStateException.class,
                        () -> Checks.bit(before.value(input, output)));
                CHECKS.raises("value(" + input + ", " + output + ")", IndexOutOfBoundsException.class,
                        () -> Checks.bit(x.value(input, output)));
                CHECKS.raises("value(7, " + output + ")", IndexOutOfBoundsException.class,
                        () -> Checks.bit(x.value(7, output)));
            }
        }
        CHECKS.raises("one output", IndexOutOfBoundsException.class,
                () -> Checks.bit(ranOn(true, 1, 1, "- 1").value(0, 1)));
    }

    private static void clears() {
        CHECKS.sentence("18: No cubes, no kept cover.");
        CoverRows x = new CoverRows(2, 2);
        x.clear();
        CHECKS.same("of a new one", 0, x.cube());
        for (int c = 1; c < 24; c++) {
            x.cube();
        }
        x.to(23, 0, 1);
        x.literal(0, 0, 1);
        x.run(true, 1);
        x.clear();
        CHECKS.raises("no kept cover", IllegalStateException.class, x::cost);
        CHECKS.raises("no cubes", IndexOutOfBoundsException.class, () -> Checks.bit(x.to(0, 0, 1)));
        CHECKS.same("no primes", 0, x.primes());
        CHECKS.no("all are OFF", x.tautology());
        CHECKS.same("no nodes", 0, x.diagram(1));
        for (int c = 0; c < 24; c++) {
            CHECKS.same("cube()", c, x.cube());
            CHECKS.no("a new one", x.literal(c, 0, 2) || x.literal(c, 1, 2) || x.to(c, 0, 0) || x.to(c, 1, 0));
        }
        x.clear();
        x.clear();
        CHECKS.same("twice", 0, x.cube());
        CHECKS.raises("inputs are as before", IndexOutOfBoundsException.class, () -> Checks.bit(x.literal(0, 2, 0)));
        CHECKS.no("outputs are as before", x.to(0, 1, 0));
    }

    private static void manyCalls() {
        CHECKS.sentence("An object is used for at most 512 calls after it has been made;");
        CoverRows x = new CoverRows(3, 1);
        int calls = 0;
        for (int n = 0; n < 32; n++) {
            x.cube();
            x.to(0, 0, 1);
            x.literal(0, 0, 1);
            x.cube();
            x.to(1, 0, 1);
            x.literal(1, 1, 0);
            for (boolean exact : new boolean[] {true, false}) {
                CHECKS.same("run() in round " + n, 2, x.run(exact, 2));
                CHECKS.same("divide() in round " + n, 1, x.divide(1 + n % 3));
                CHECKS.same("kernels() in round " + n, 1, x.kernels());
            }
            CHECKS.same("diagram() in round " + n, 2, x.diagram(n % 6));
            CHECKS.same("order() in round " + n, 0, x.order());
            CHECKS.same("cost() in round " + n, 4, x.cost());
            x.clear();
            calls += 16;
        }
        CHECKS.same("calls", 512, calls);
    }
}
