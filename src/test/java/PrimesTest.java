/** Promises 5, 6 and 9: primes, prime, tautology. */
public final class PrimesTest {
    private static final Checks CHECKS = new Checks("PrimesTest");

    public static void main(String[] args) {
        oneOutput();
        twoOutputs();
        dontCares();
        wrongNumbers();
        tautologies();
        mostPrimes();
        CHECKS.end();
    }

    private static void oneOutput() {
        CHECKS.same("all", "- 1", Rows.primes(Rows.of(1, 1, "- 1"), 1, 1));
        CHECKS.same("both digits", "- 1", Rows.primes(Rows.of(1, 1, "0 1", "1 1"), 1, 1));
        CHECKS.same("either", "1- 1, -1 1", Rows.primes(Rows.of(2, 1, "-1 1", "1- 1"), 2, 1));
        CHECKS.same("consensus", "0-1 1, 11- 1, -11 1", Rows.primes(Rows.of(3, 1, "0-1 1", "11- 1"), 3, 1));
        CHECKS.same("input 0 is the highest digit", "0--- 1, ---1 1",
                Rows.primes(Rows.of(4, 1, "---1 1", "0--- 1"), 4, 1));
        CHECKS.same("parity", "001 1, 010 1, 100 1, 111 1", Rows.primes(Rows.ofMask(3, 0b10010110), 3, 1));
    }

    private static void twoOutputs() {
        CHECKS.same("the same", "1- 11", Rows.primes(Rows.of(2, 2, "1- 11"), 2, 2));
        CHECKS.same("apart", "0- 10, 1- 01", Rows.primes(Rows.of(2, 2, "0- 10", "1- 01"), 2, 2));
        CHECKS.same("what both have", "11 11, 1- 10, -1 01", Rows.primes(Rows.of(2, 2, "1- 10", "-1 01"), 2, 2));
        CHECKS.same("one in the other", "-1 11, -- 01", Rows.primes(Rows.of(2, 2, "-1 10", "-- 01"), 2, 2));
    }

    private static void dontCares() {
        CHECKS.same("don't-cares alone", "0- 1", Rows.primes(Rows.of(2, 1, "0- 2"), 2, 1));
        CHECKS.same("ON and don't-care", "-- 1", Rows.primes(Rows.of(2, 1, "0- 1", "1- 2"), 2, 1));
        CHECKS.same("NOTHING takes nothing away", "0- 1", Rows.primes(Rows.of(2, 1, "0- 1", "00 0"), 2, 1));
    }

    private static void wrongNumbers() {
        CoverRows x = Rows.of(2, 1, "0- 1", "-1 1");
        CHECKS.same("primes()", 2, x.primes());
        int[][] noSuch = {{2, 0}, {-1, 0}, {0, 3}, {0, -1}, {81, 0}, {Integer.MAX_VALUE, 0},
            {Integer.MIN_VALUE, 0}, {0, Integer.MAX_VALUE}, {0, Integer.MIN_VALUE}};
        for (int[] n : noSuch) {
            CHECKS.raises("prime(" + n[0] + ", " + n[1] + ")", IndexOutOfBoundsException.class,
                    () -> x.prime(n[0], n[1]));
        }
        CHECKS.raises("prime(0, 0) of none", IndexOutOfBoundsException.class, () -> new CoverRows(1, 1).prime(0, 0));
        CHECKS.same("prime(1, 2)", 1, x.prime(1, 2));
        x.literal(0, 0, 2);
        CHECKS.same("prime(0, 0) after a change", 2, x.prime(0, 0));
    }

    private static void tautologies() {
        CHECKS.no("no cubes", new CoverRows(1, 1).tautology());
        CHECKS.yes("ON", Rows.of(4, 2, "---- 11").tautology());
        CHECKS.yes("don't-care", Rows.of(4, 1, "---- 2").tautology());
        CHECKS.yes("ON and don't-care", Rows.of(3, 1, "0-- 1", "1-- 2").tautology());
        CHECKS.no("one is missing", Rows.of(3, 1, "0-- 1", "1-0 2", "10- 1").tautology());
        CHECKS.no("output 1 is OFF", Rows.of(2, 2, "-- 10").tautology());
        CHECKS.no("output 0 is OFF", Rows.of(2, 2, "-- 01").tautology());
        CHECKS.yes("each output by others", Rows.of(2, 2, "0- 12", "1- 21").tautology());
        CHECKS.yes("one input", Rows.of(1, 1, "0 1", "1 1").tautology());
    }

    /** The masks of primes in CoverRows hold 48, and rest on 13 for one output of four inputs. */
    private static void mostPrimes() {
        int most = 0;
        for (int on = 0; on < 1 << 16; on++) {
            most = Math.max(most, Rows.ofMask(4, on).primes());
        }
        CHECKS.same("most primes of four inputs", 13, most);
    }
}
