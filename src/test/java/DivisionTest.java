/** Promises 11 to 13: kernels, divide, quotient. */
public final class DivisionTest {
    private static final Checks CHECKS = new Checks("DivisionTest");

    public static void main(String[] args) {
        kernels();
        quotients();
        severalDivisors();
        wrongSets();
        lifeOfTheQuotient();
        CHECKS.end();
    }

    private static CoverRows kept(int inputs, int outputs, String... cubes) {
        CoverRows x = Rows.of(inputs, outputs, cubes);
        x.run(true, Long.MAX_VALUE);
        return x;
    }

    private static void kernels() {
        CHECKS.raises("kernels() before any run", IllegalStateException.class, () -> new CoverRows(2, 1).kernels());
        CHECKS.same("of none", 0, kept(2, 1).kernels());
        CHECKS.same("of one product", 0, kept(2, 1, "01 1").kernels());
        CHECKS.same("of two inputs", 1, kept(2, 1, "1- 1", "-1 1").kernels());
        CHECKS.same("of a sum with a shared digit", 1, kept(3, 1, "11- 1", "1-1 1").kernels());
        CHECKS.same("of two that share nothing", 1, kept(4, 1, "11-- 1", "--11 1").kernels());
        CHECKS.same("of two factors", 3, kept(4, 1, "1-1- 1", "1--1 1", "-11- 1", "-1-1 1").kernels());
        CHECKS.same("of two levels", 2, kept(3, 1, "11- 1", "1-1 1", "000 1").kernels());
        CHECKS.same("one is within another one", 1, kept(2, 2, "1- 10", "11 11").kernels());
        CHECKS.same("a digit and its other one", 1, kept(2, 1, "10 1", "01 1").kernels());
    }

    private static void quotients() {
        CoverRows x = kept(3, 1, "11- 1", "1-1 1");
        CHECKS.same("divide(1)", 1, x.divide(1));
        CHECKS.same("what is left is all free", "26", Rows.quotient(x, 1));
        CHECKS.same("divide(2)", 1, x.divide(2));
        CHECKS.same("what is left is all free", "26", Rows.quotient(x, 1));
        // The products 11-0 and 1-01 are those of two outputs, so they stay beside 1--- and it divides them.
        CoverRows y = kept(4, 2, "1--- 10", "11-0 01", "1-01 01");
        CHECKS.same("kept", "11-0 11, 1-01 11, 1--- 10", Rows.kept(y, 3, 4, 2));
        CHECKS.same("divide(4)", 3, y.divide(4));
        CHECKS.same("by rising numbers", "69 73 80", Rows.quotient(y, 3));
        CHECKS.same("divide(1)", 1, y.divide(1));
        CHECKS.same("itself", "80", Rows.quotient(y, 1));
        CHECKS.same("kernels()", 1, y.kernels());
        CHECKS.same("kernels() keeps the quotient", "80", Rows.quotient(y, 1));
    }

    private static void severalDivisors() {
        CoverRows x = kept(4, 2, "1--- 10", "11-0 01", "1-01 01");
        CHECKS.same("divide(5)", 1, x.divide(5));
        CHECKS.same("what is in both", "80", Rows.quotient(x, 1));
        CHECKS.same("divide(7)", 1, x.divide(7));
        CoverRows y = kept(3, 2, "1-- 10", "0-- 10", "1-1 01", "01- 01");
        CHECKS.same("kept", "01- 11, 1-1 11, --- 10", Rows.kept(y, 3, 3, 2));
        CHECKS.same("divide(4)", 3, y.divide(4));
        CHECKS.same("by the product that is all free", "5 16 26", Rows.quotient(y, 3));
        CoverRows z = kept(4, 2, "1--- 10", "-11- 10", "-1-- 01", "1-1- 01");
        CHECKS.same("kept", "1-1- 11, 1--- 10, -11- 11, -1-- 01", Rows.kept(z, 4, 4, 2));
        CHECKS.same("divide(2)", 2, z.divide(2));
        CHECKS.same("by 1---", "77 80", Rows.quotient(z, 2));
        CHECKS.same("divide(10)", 2, z.divide(10));
        CHECKS.same("by 1--- and -1--", "77 80", Rows.quotient(z, 2));
        CHECKS.same("divide(15)", 1, z.divide(15));
        CHECKS.same("by all", "80", Rows.quotient(z, 1));
    }

    private static void wrongSets() {
        CHECKS.raises("divide(0) before any run", IllegalStateException.class, () -> new CoverRows(2, 1).divide(0));
        CHECKS.raises("divide(1) of none", IllegalArgumentException.class, () -> kept(2, 1).divide(1));
        CoverRows x = kept(2, 1, "1- 1", "-1 1");
        for (int set : new int[] {0, 4, 5, 7, -1, 1 << 31, (1 << 31) + 1, 1 << 16}) {
            CHECKS.raises("divide(" + set + ")", IllegalArgumentException.class, () -> x.divide(set));
        }
        CHECKS.same("divide(3)", 1, x.divide(3));
        for (int k : new int[] {-1, 1, 81, Integer.MIN_VALUE, Integer.MAX_VALUE}) {
            CHECKS.raises("quotient(" + k + ")", IndexOutOfBoundsException.class, () -> x.quotient(k));
        }
    }

    private static void lifeOfTheQuotient() {
        CoverRows x = kept(2, 1, "1- 1", "-1 1");
        CHECKS.raises("quotient(0) without one", IndexOutOfBoundsException.class, () -> x.quotient(0));
        x.divide(1);
        Checks.outcome(() -> x.divide(0));
        Checks.outcome(() -> x.divide(8));
        CHECKS.same("a wrong divide() changes nothing", 8, x.quotient(0));
        x.literal(0, 0, 0);
        CHECKS.same("a literal() leaves it", 8, x.quotient(0));
        CHECKS.same("run(true, 0) is too long", -1, x.run(true, 0));
        CHECKS.same("which leaves it", 8, x.quotient(0));
        x.clear();
        CHECKS.same("clear() leaves it: it is kept till the next run()", 8, x.quotient(0));
        x.run(true, 0);
        CHECKS.raises("quotient(0) after run()", IndexOutOfBoundsException.class, () -> x.quotient(0));
    }
}
