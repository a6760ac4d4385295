/** Promises 1 to 4 and 18: a new object, cube, literal, to, clear. */
public final class CubesTest {
    private static final Checks CHECKS = new Checks("CubesTest");

    public static void main(String[] args) {
        CHECKS.same("NONE", -1, CoverRows.NONE);
        newObjects();
        cubes();
        literals();
        kinds();
        wrongCallsChangeNothing();
        cleared();
        CHECKS.end();
    }

    private static void newObjects() {
        int[][] asked = {{1, 1, 1, 1}, {4, 2, 4, 2}, {3, 2, 3, 2}, {0, 0, 1, 1}, {5, 3, 4, 2}, {-7, 2, 1, 2},
            {2, -1, 2, 1}, {Integer.MIN_VALUE, Integer.MAX_VALUE, 1, 2}, {Integer.MAX_VALUE, Integer.MIN_VALUE, 4, 1}};
        for (int[] row : asked) {
            CoverRows x = new CoverRows(row[0], row[1]);
            String made = "new CoverRows(" + row[0] + ", " + row[1] + ") ";
            CHECKS.raises(made + "literal(0, 0, 0)", IndexOutOfBoundsException.class,
                    () -> Checks.bit(x.literal(0, 0, 0)));
            CHECKS.same(made + "primes()", 0, x.primes());
            CHECKS.no(made + "tautology()", x.tautology());
            CHECKS.raises(made + "cost()", IllegalStateException.class, x::cost);
            CHECKS.raises(made + "quotient(0)", IndexOutOfBoundsException.class, () -> x.quotient(0));
            CHECKS.same(made + "cube()", 0, x.cube());
            CHECKS.yes(made + "last input", x.literal(0, row[2] - 1, 0));
            CHECKS.raises(made + "input behind the last", IndexOutOfBoundsException.class,
                    () -> Checks.bit(x.literal(0, row[2], 0)));
            CHECKS.yes(made + "last output", x.to(0, row[3] - 1, 1));
            CHECKS.raises(made + "output behind the last", IndexOutOfBoundsException.class,
                    () -> Checks.bit(x.to(0, row[3], 1)));
        }
    }

    private static void cubes() {
        CoverRows x = new CoverRows(2, 2);
        for (int c = 0; c < 24; c++) {
            CHECKS.same("cube()", c, x.cube());
        }
        CHECKS.raises("cube() with 24", UnsupportedOperationException.class, x::cube);
        CHECKS.raises("cube() with 24, again", UnsupportedOperationException.class, x::cube);
        CHECKS.no("literal(23, 0, 2): all free", x.literal(23, 0, 2));
        CHECKS.no("literal(23, 1, 2): all free", x.literal(23, 1, 2));
        CHECKS.no("to(23, 0, 0): NOTHING", x.to(23, 0, 0));
        CHECKS.no("to(23, 1, 0): NOTHING", x.to(23, 1, 0));
        CHECKS.same("primes() with NOTHING", 0, x.primes());
    }

    private static void literals() {
        CoverRows x = Rows.of(3, 1, "--- 1", "--- 0");
        CHECKS.yes("literal(0, 1, 0)", x.literal(0, 1, 0));
        CHECKS.no("literal(0, 1, 0) again", x.literal(0, 1, 0));
        CHECKS.yes("literal(0, 1, 1)", x.literal(0, 1, 1));
        CHECKS.yes("literal(0, 2, 0)", x.literal(0, 2, 0));
        CHECKS.same("primes", "-10 1", Rows.primes(x, 3, 1));
        CHECKS.yes("literal(0, 1, 2)", x.literal(0, 1, 2));
        CHECKS.same("primes", "--0 1", Rows.primes(x, 3, 1));
        int[][] noSuch = {{2, 0, 0}, {-1, 0, 0}, {0, 3, 0}, {0, -1, 0}, {24, 0, 0}, {2, 0, 3}, {0, 3, -1},
            {Integer.MIN_VALUE, 0, 0}, {Integer.MAX_VALUE, Integer.MAX_VALUE, Integer.MAX_VALUE}};
        for (int[] n : noSuch) {
            CHECKS.raises("literal(" + n[0] + ", " + n[1] + ", " + n[2] + ")", IndexOutOfBoundsException.class,
                    () -> Checks.bit(x.literal(n[0], n[1], n[2])));
        }
        for (int v : new int[] {-1, 3, Integer.MIN_VALUE, Integer.MAX_VALUE}) {
            CHECKS.raises("literal(0, 0, " + v + ")", IllegalArgumentException.class,
                    () -> Checks.bit(x.literal(0, 0, v)));
        }
    }

    private static void kinds() {
        CoverRows x = Rows.of(2, 2, "0- 00", "-1 00");
        CHECKS.yes("to(0, 0, 1)", x.to(0, 0, 1));
        CHECKS.no("to(0, 0, 1) again", x.to(0, 0, 1));
        CHECKS.yes("to(0, 0, 2)", x.to(0, 0, 2));
        CHECKS.yes("to(1, 1, 2)", x.to(1, 1, 2));
        CHECKS.same("primes", "01 11, 0- 10, -1 01", Rows.primes(x, 2, 2));
        CHECKS.yes("to(0, 0, 0)", x.to(0, 0, 0));
        CHECKS.same("primes", "-1 01", Rows.primes(x, 2, 2));
        int[][] noSuch = {{2, 0, 0}, {-1, 0, 0}, {0, 2, 0}, {0, -1, 0}, {24, 0, 0}, {2, 0, 3}, {0, 2, -1},
            {Integer.MIN_VALUE, 0, 0}, {Integer.MAX_VALUE, Integer.MAX_VALUE, Integer.MAX_VALUE}};
        for (int[] n : noSuch) {
            CHECKS.raises("to(" + n[0] + ", " + n[1] + ", " + n[2] + ")", IndexOutOfBoundsException.class,
                    () -> Checks.bit(x.to(n[0], n[1], n[2])));
        }
        for (int v : new int[] {-1, 3, Integer.MIN_VALUE, Integer.MAX_VALUE}) {
            CHECKS.raises("to(0, 0, " + v + ")", IllegalArgumentException.class, () -> Checks.bit(x.to(0, 0, v)));
        }
    }

    private static void wrongCallsChangeNothing() {
        CoverRows x = Rows.of(2, 1, "01 1");
        Checks.outcome(() -> Checks.bit(x.literal(0, 0, 3)));
        Checks.outcome(() -> Checks.bit(x.literal(0, 2, 1)));
        Checks.outcome(() -> Checks.bit(x.to(0, 0, -1)));
        Checks.outcome(() -> Checks.bit(x.to(0, 1, 2)));
        CHECKS.same("primes", "01 1", Rows.primes(x, 2, 1));
        CHECKS.same("cube()", 1, x.cube());
    }

    private static void cleared() {
        CoverRows x = Rows.of(2, 2, "01 12", "1- 21");
        x.run(true, 99);
        x.clear();
        CHECKS.same("primes()", 0, x.primes());
        CHECKS.no("tautology()", x.tautology());
        CHECKS.same("diagram(0)", 0, x.diagram(0));
        CHECKS.raises("cost()", IllegalStateException.class, x::cost);
        CHECKS.raises("kernels()", IllegalStateException.class, x::kernels);
        CHECKS.raises("divide(1)", IllegalStateException.class, () -> x.divide(1));
        CHECKS.raises("at(0, 0)", IllegalStateException.class, () -> x.at(0, 0));
        CHECKS.raises("equal()", IllegalStateException.class, () -> Checks.bit(x.equal()));
        CHECKS.raises("value(0, 0)", IllegalStateException.class, () -> Checks.bit(x.value(0, 0)));
        CHECKS.raises("literal(0, 0, 0)", IndexOutOfBoundsException.class, () -> Checks.bit(x.literal(0, 0, 0)));
        CHECKS.same("cube()", 0, x.cube());
        CHECKS.no("literal(0, 0, 2): all free", x.literal(0, 0, 2));
        CHECKS.no("literal(0, 1, 2): all free", x.literal(0, 1, 2));
        CHECKS.no("to(0, 0, 0): NOTHING", x.to(0, 0, 0));
        CHECKS.no("to(0, 1, 0): NOTHING", x.to(0, 1, 0));
        x.clear();
        CHECKS.same("run(true, 0)", 0, x.run(true, 0));
    }
}
