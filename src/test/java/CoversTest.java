/** Promises 7, 8, 10, 16 and 17: run, at, cost, equal, value. */
public final class CoversTest {
    private static final Checks CHECKS = new Checks("CoversTest");
    /** Not all alike: six primes in a ring, three of which are enough, and the quick one has four. */
    private static final String[] RING = {"0-1 1", "1-0 1", "01- 1", "10- 1", "-01 1", "-10 1"};

    public static void main(String[] args) {
        leastAndQuick();
        ties();
        steps();
        keptAsItWas();
        wrongNumbers();
        beforeAnyRun();
        equals();
        values();
        CHECKS.end();
    }

    private static void leastAndQuick() {
        CHECKS.same("nothing is ON", 0, new CoverRows(2, 2).run(true, 0));
        CHECKS.same("nothing is ON", 0, Rows.of(2, 2, "-- 22").run(false, 1));
        CHECKS.same("all", "-- 11", Rows.run(Rows.of(2, 2, "-- 11"), true, 2, 2));
        CHECKS.same("consensus is left out", "0-1 1, 11- 1", Rows.run(Rows.of(3, 1, "0-1 1", "11- 1"), true, 3, 1));
        CHECKS.same("consensus is left out", "0-1 1, 11- 1", Rows.run(Rows.of(3, 1, "0-1 1", "11- 1"), false, 3, 1));
        CoverRows x = Rows.of(3, 1, RING);
        CHECKS.same("least of the ring", "01- 1, 1-0 1, -01 1", Rows.run(x, true, 3, 1));
        CHECKS.same("its cost", 9, x.cost());
        CHECKS.same("quick of the ring", "01- 1, 0-1 1, 10- 1, 1-0 1", Rows.run(x, false, 3, 1));
        CHECKS.same("its cost", 12, x.cost());
        CoverRows shared = Rows.of(2, 2, "11 11", "10 20", "01 02");
        CHECKS.same("one term for two outputs", "11 11", Rows.run(shared, true, 2, 2));
        CHECKS.same("cost with outputs", 4, shared.cost());
        CHECKS.same("one term for two outputs", "11 11", Rows.run(shared, false, 2, 2));
    }

    private static void ties() {
        CoverRows cheap = Rows.of(3, 1, "111 1", "110 2", "0-- 0", "--1 2");
        CHECKS.same("the least cost", "--1 1", Rows.run(cheap, true, 3, 1));
        CHECKS.same("the least cost", "--1 1", Rows.run(cheap, false, 3, 1));
        CoverRows first = Rows.of(2, 1, "11 1", "10 2", "01 2");
        CHECKS.same("the first one", "1- 1", Rows.run(first, true, 2, 1));
        CHECKS.same("the first one", "1- 1", Rows.run(first, false, 2, 1));
        CoverRows dropped = Rows.of(4, 1, "-1-1 1", "001- 1", "1-00 1", "-110 1", "10-1 1");
        int quick = dropped.run(false, 99);
        CHECKS.yes("a cover", dropped.equal());
        CHECKS.yes("the least one is no longer", dropped.run(true, 99) <= quick);
        CoverRows middle = Rows.of(3, 1, "-11 1", "0-1 1", "11- 1");
        CHECKS.same("the one in the middle goes", "0-1 1, 11- 1", Rows.run(middle, false, 3, 1));
    }

    private static void steps() {
        CoverRows x = Rows.of(3, 1, RING);
        CHECKS.raises("run(true, -1)", IllegalArgumentException.class, () -> x.run(true, -1));
        CHECKS.raises("run(false, MIN)", IllegalArgumentException.class, () -> x.run(false, Long.MIN_VALUE));
        CHECKS.same("run(true, 5)", -1, x.run(true, 5));
        CHECKS.same("run(false, 0)", -1, x.run(false, 0));
        CHECKS.raises("cost() before a run", IllegalStateException.class, x::cost);
        CHECKS.same("run(true, 6)", 3, x.run(true, 6));
        CHECKS.same("divide(1)", 1, x.divide(1));
        CHECKS.same("run(false, 5)", -1, x.run(false, 5));
        CHECKS.same("the kept one stays", 9, x.cost());
        CHECKS.same("its quotient stays", 26, x.quotient(0));
        CHECKS.raises("run(false, -1)", IllegalArgumentException.class, () -> x.run(false, -1));
        CHECKS.same("its quotient stays", 26, x.quotient(0));
        CHECKS.same("run(false, 6)", 4, x.run(false, 6));
        CHECKS.raises("no quotient after a run", IndexOutOfBoundsException.class, () -> x.quotient(0));
        CHECKS.same("run(false, 1L << 32)", 4, x.run(false, 1L << 32));
    }

    private static void keptAsItWas() {
        CoverRows x = Rows.of(2, 2, "1- 10", "-1 01");
        CHECKS.same("kept", "1- 10, -1 01", Rows.run(x, true, 2, 2));
        x.literal(0, 0, 0);
        x.to(1, 1, 0);
        x.cube();
        CHECKS.same("primes now", "0- 10", Rows.primes(x, 2, 2));
        CHECKS.same("kept as it was", "1- 10, -1 01", Rows.kept(x, 2, 2, 2));
        CHECKS.same("its cost", 4, x.cost());
    }

    private static void wrongNumbers() {
        CoverRows x = Rows.of(3, 1, RING);
        x.run(true, 99);
        int[][] noSuch = {{3, 0}, {-1, 0}, {0, 4}, {0, -1}, {81, 0}, {Integer.MAX_VALUE, 0},
            {Integer.MIN_VALUE, 0}, {0, Integer.MAX_VALUE}, {0, Integer.MIN_VALUE}};
        for (int[] n : noSuch) {
            CHECKS.raises("at(" + n[0] + ", " + n[1] + ")", IndexOutOfBoundsException.class, () -> x.at(n[0], n[1]));
        }
        CoverRows none = new CoverRows(1, 1);
        none.run(true, 0);
        CHECKS.raises("at(0, 0) of none", IndexOutOfBoundsException.class, () -> none.at(0, 0));
        CHECKS.same("cost() of none", 0, none.cost());
        for (long input : new long[] {-1, 8, 1L << 32, Long.MIN_VALUE, Long.MAX_VALUE}) {
            CHECKS.raises("value(" + input + ", 0)", IllegalArgumentException.class,
                    () -> Checks.bit(x.value(input, 0)));
            CHECKS.raises("value(" + input + ", 1)", IndexOutOfBoundsException.class,
                    () -> Checks.bit(x.value(input, 1)));
        }
        for (int output : new int[] {-1, 1, Integer.MIN_VALUE, Integer.MAX_VALUE}) {
            CHECKS.raises("value(0, " + output + ")", IndexOutOfBoundsException.class,
                    () -> Checks.bit(x.value(0, output)));
        }
    }

    private static void beforeAnyRun() {
        CoverRows x = Rows.of(3, 1, RING);
        CHECKS.raises("at(-1, 0)", IllegalStateException.class, () -> x.at(-1, 0));
        CHECKS.raises("cost()", IllegalStateException.class, x::cost);
        CHECKS.raises("equal()", IllegalStateException.class, () -> Checks.bit(x.equal()));
        CHECKS.raises("value(-1, -1)", IllegalStateException.class, () -> Checks.bit(x.value(-1, -1)));
    }

    private static void equals() {
        CoverRows x = Rows.of(2, 2, "1- 10", "-1 02", "00 01");
        x.run(true, 99);
        CHECKS.yes("equal()", x.equal());
        x.to(0, 0, 2);
        CHECKS.yes("what is had may be a don't-care", x.equal());
        x.to(0, 0, 0);
        CHECKS.no("output 0 is OFF now", x.equal());
        x.to(0, 0, 1);
        CHECKS.yes("equal() again", x.equal());
        x.literal(2, 0, 1);
        CHECKS.no("output 1 is ON elsewhere", x.equal());
        x.literal(2, 0, 0);
        x.literal(0, 0, 2);
        CHECKS.no("more is ON for output 0", x.equal());
        CoverRows none = new CoverRows(2, 2);
        none.run(false, 0);
        CHECKS.yes("nothing is ON, nothing is had", none.equal());
        Rows.fill(none, "00 02");
        CHECKS.yes("a don't-care need not be had", none.equal());
        Rows.fill(none, "00 01");
        CHECKS.no("ON is not had", none.equal());
    }

    private static void values() {
        CoverRows x = Rows.of(3, 2, "1-0 10", "-11 01", "0-- 02");
        x.run(true, 99);
        for (int a = 0; a < 8; a++) {
            boolean first = (a & 1) == 1 && (a >> 2 & 1) == 0;
            CHECKS.same("value(" + a + ", 0)", Checks.bit(first), Checks.bit(x.value(a, 0)));
            CHECKS.same("value(" + a + ", 1)", Checks.bit((a >> 1 & 3) == 3), Checks.bit(x.value(a, 1)));
        }
        x.to(0, 0, 0);
        CHECKS.yes("value(1, 0) of the kept one", x.value(1, 0));
    }
}
