/** Each sentence of "Terms", "2 COVERS" and "3 DIVISION", at the edges that it names. */
public final class TermSentencesTest {
    private static final Checks CHECKS = new Checks("TermSentencesTest");
    /** Four inputs, two outputs, 32 primes: no table with more has been found. */
    private static final String MANY_PRIMES = "01111110112010011001021201212120";

    public static void main(String[] args) {
        inputsAndOutputs();
        assignments();
        products();
        numbers();
        cubes();
        kindsOfAssignments();
        terms();
        within();
        primes();
        costs();
        covers();
        leastOnes();
        quickOnes();
        keptCover();
        sums();
        quotients();
        severalDivisors();
        kernels();
        diagrams();
        orders();
        CHECKS.end();
    }

    private static void inputsAndOutputs() {
        CHECKS.sentence("There are INPUTS (1 .. 4) and OUTPUTS (1 .. 2).");
        for (int inputs = 1; inputs <= 4; inputs++) {
            for (int outputs = 1; outputs <= 2; outputs++) {
                String all = "-".repeat(inputs) + " " + "1".repeat(outputs);
                CoverRows x = Rows.of(inputs, outputs, all);
                CHECKS.same("the prime of all", all, Rows.primes(x, inputs, outputs));
                int behind = inputs + outputs;
                CHECKS.raises("prime(0, " + behind + ")", IndexOutOfBoundsException.class, () -> x.prime(0, behind));
            }
        }
    }

    private static void assignments() {
        CHECKS.sentence("An ASSIGNMENT is a number from 0 on, input i being its bit i.");
        for (int inputs = 1; inputs <= 4; inputs++) {
            int behind = 1 << inputs;
            for (int a = 0; a < behind; a++) {
                CoverRows x = Rows.ofMask(inputs, 1 << a);
                x.run(true, 1);
                for (int b = 0; b < behind; b++) {
                    CHECKS.same("value(" + b + ", 0) of " + a, Checks.bit(a == b), Checks.bit(x.value(b, 0)));
                }
                CHECKS.raises("value(-1, 0)", IllegalArgumentException.class, () -> Checks.bit(x.value(-1, 0)));
                CHECKS.raises("value(" + behind + ", 0)", IllegalArgumentException.class,
                        () -> Checks.bit(x.value(behind, 0)));
            }
        }
    }

    private static void products() {
        CHECKS.sentence("A PRODUCT has a DIGIT for each input: 0, 1, or 2 (FREE); it HAS the assignments of which "
                + "each bit whose digit is not free is that digit.");
        for (int inputs = 1; inputs <= 4; inputs++) {
            for (int p = 0; p < Rows.power(3, inputs); p++) {
                String product = Rows.product(p, inputs);
                CoverRows x = Rows.of(inputs, 1, product + " 1");
                CHECKS.same("kept", product + " 1", Rows.run(x, true, inputs, 1));
                for (int a = 0; a < 1 << inputs; a++) {
                    CHECKS.same(product + " has " + a, Checks.bit(Rows.has(product, a)), Checks.bit(x.value(a, 0)));
                }
            }
        }
    }

    /** Beside the product that is all free, kept for the other output, each product is in the quotient by it. */
    private static void numbers() {
        CHECKS.sentence("Its NUMBER are its digits in base 3, input 0 being the highest one.");
        for (int inputs = 1; inputs <= 4; inputs++) {
            int allFree = Rows.power(3, inputs) - 1;
            for (int p = 0; p < allFree; p++) {
                CoverRows x = Rows.of(inputs, 2, "-".repeat(inputs) + " 10", Rows.product(p, inputs) + " 01");
                x.run(true, 2);
                CHECKS.same("divide(2)", 2, x.divide(2));
                CHECKS.same("numbers of " + inputs + " digits", p + " " + allFree, Rows.quotient(x, 2));
            }
        }
    }

    private static void cubes() {
        CHECKS.sentence("CUBES 0 .. 23 are products with, for each output, 0 NOTHING, 1 ON or 2 DON'T-CARE.");
        for (int c = 0; c < 24; c++) {
            CoverRows x = new CoverRows(4, 2);
            for (int n = 0; n < 24; n++) {
                x.cube();
            }
            for (int i = 0; i < 4; i++) {
                x.literal(c, i, c >> i & 1);
            }
            x.to(c, 0, 1);
            x.to(c, 1, 2);
            String digits = "" + (c & 1) + (c >> 1 & 1) + (c >> 2 & 1) + (c >> 3 & 1);
            CHECKS.same("the prime of cube " + c, digits + " 11", Rows.primes(x, 4, 2));
            CHECKS.same("nodes of cube " + c, 4, x.diagram(0));
            x.to(c, 0, 0);
            CHECKS.same("the prime of cube " + c, digits + " 01", Rows.primes(x, 4, 2));
            CHECKS.same("nodes of a don't-care", 0, x.diagram(0));
        }
    }

    private static void kindsOfAssignments() {
        CHECKS.sentence("An assignment is ON for an output if an ON cube has it; else DON'T-CARE, if such a cube has "
                + "it; else OFF.");
        for (int first = 0; first <= 2; first++) {
            for (int second = 0; second <= 2; second++) {
                CoverRows x = Rows.of(1, 2, "0 0" + first, "0 0" + second, "- 00");
                boolean on = first == 1 || second == 1;
                boolean off = first == 0 && second == 0;
                String what = first + " and " + second + ": ";
                CHECKS.same(what + "nodes if it is ON", on ? 1 : 0, x.diagram(0));
                CHECKS.same(what + "primes if it is not OFF", off ? 0 : 1, x.primes());
                CHECKS.same(what + "terms if it is ON", on ? 1 : 0, x.run(true, 1));
            }
        }
        CoverRows parts = Rows.of(2, 1, "0- 1", "-- 2");
        CHECKS.same("ON is one half", 1, parts.diagram(0));
        CHECKS.yes("the other one is no OFF", parts.tautology());
    }

    /** With one assignment OFF the widest terms have one digit each, the one that this assignment has not. */
    private static void terms() {
        CHECKS.sentence("A TERM is a product and one or two outputs, for none of which an assignment that it has is "
                + "OFF.");
        for (int off = 0; off < 16; off++) {
            CoverRows x = Rows.ofMask(4, 0xFFFF & ~(1 << off));
            CHECKS.same("primes with " + off + " OFF", 4, x.primes());
            for (int k = 0; k < 4; k++) {
                CHECKS.same("digit " + k + " with " + off + " OFF", 1 - (off >> k & 1), singleDigit(x, k));
            }
        }
        CHECKS.same("none is OFF", "---- 1", Rows.primes(Rows.ofMask(4, 0xFFFF), 4, 1));
        CHECKS.same("all are OFF", "", Rows.primes(new CoverRows(4, 2), 4, 2));
        CHECKS.same("OFF for one output", "-- 10", Rows.primes(Rows.of(2, 2, "-- 10"), 2, 2));
        CHECKS.same("OFF for one output", "-- 01", Rows.primes(Rows.of(2, 2, "-- 02"), 2, 2));
        CHECKS.same("OFF for no output", "-- 11", Rows.primes(Rows.of(2, 2, "-- 21"), 2, 2));
    }

    /** The digit of the one prime whose other digits are all free; 9 if there is none. */
    private static int singleDigit(CoverRows x, int input) {
        for (int k = 0; k < x.primes(); k++) {
            boolean alone = x.prime(k, input) != 2;
            for (int i = 0; i < 4; i++) {
                alone = alone && (i == input || x.prime(k, i) == 2);
            }
            if (alone) {
                return x.prime(k, input);
            }
        }
        return 9;
    }

    private static void within() {
        CHECKS.sentence("It is WITHIN another one that has all its assignments and all its outputs.");
        CHECKS.same("all assignments, all outputs", "-- 11", Rows.primes(Rows.of(2, 2, "11 11", "-- 11"), 2, 2));
        CHECKS.same("all assignments, not all outputs", "11 11, -- 10",
                Rows.primes(Rows.of(2, 2, "11 01", "-- 10"), 2, 2));
        CHECKS.same("all outputs, not all assignments", "0-1 1, 11- 1, -11 1",
                Rows.primes(Rows.of(3, 1, "0-1 1", "11- 1"), 3, 1));
        CHECKS.same("the same product with one output", "1 11", Rows.primes(Rows.of(1, 2, "1 10", "1 01"), 1, 2));
    }

    /** No two primes have the same product: that with the outputs of both would be a term, too. */
    private static void primes() {
        CHECKS.sentence("PRIMES are terms that are within no other one, by the numbers of their products, then by "
                + "their outputs as a number (output o being bit o); numbered from 0 on.");
        CoverRows x = Rows.ofTable(4, 2, MANY_PRIMES);
        CHECKS.same("primes()", 32, x.primes());
        int before = -1;
        for (int k = 0; k < 32; k++) {
            int number = 0;
            for (int i = 0; i < 4; i++) {
                number = number * 3 + x.prime(k, i);
            }
            CHECKS.yes("prime " + k + " has a higher number than the one before", number > before);
            before = number;
        }
        CHECKS.raises("prime(-1, 0)", IndexOutOfBoundsException.class, () -> x.prime(-1, 0));
        CHECKS.raises("prime(32, 0)", IndexOutOfBoundsException.class, () -> x.prime(32, 0));
        CHECKS.same("the lowest and the highest number", "0000 11, ---- 10",
                Rows.primes(Rows.of(4, 2, "---- 10", "0000 01"), 4, 2));
    }

    private static void costs() {
        CHECKS.sentence("Their COST: digits that are not free, and outputs.");
        for (int p = 0; p < 81; p++) {
            String product = Rows.product(p, 4);
            int digits = 4 - (int) product.chars().filter(d -> d == '-').count();
            CoverRows one = Rows.of(4, 2, product + " 01");
            one.run(true, 1);
            CHECKS.same("cost of " + product + " for one", digits + 1, one.cost());
            CoverRows two = Rows.of(4, 2, product + " 12");
            two.run(true, 1);
            CHECKS.same("cost of " + product + " for two", digits + 2, two.cost());
        }
    }

    private static void covers() {
        CHECKS.sentence("A COVER are primes that have all ON assignments, for each output by those with that.");
        for (boolean exact : new boolean[] {true, false}) {
            CHECKS.same("nothing is ON", "", Rows.run(new CoverRows(4, 2), exact, 4, 2));
            CHECKS.same("all are don't-cares", "", Rows.run(Rows.of(4, 2, "---- 22"), exact, 4, 2));
            CHECKS.same("all are ON", "---- 11", Rows.run(Rows.of(4, 2, "---- 11"), exact, 4, 2));
            CHECKS.same("all are ON for one", "---- 01", Rows.run(Rows.of(4, 2, "---- 01"), exact, 4, 2));
            CHECKS.same("1- is not for output 1", "11 11, 1- 10",
                    Rows.run(Rows.of(2, 2, "1- 10", "11 01"), exact, 2, 2));
            CHECKS.same("a don't-care need not be had", "00 1",
                    Rows.run(Rows.of(2, 1, "00 1", "11 2"), exact, 2, 1));
        }
    }

    private static void leastOnes() {
        CHECKS.sentence("The LEAST one has the fewest primes; of several, the least sum of costs; then the least first "
                + "prime, the least second one, and so on.");
        CoverRows few = Rows.ofTable(3, 2, "1021211212110000");
        CHECKS.same("three primes, though four cost less", "0-0 11, -10 11, --1 10", Rows.run(few, true, 3, 2));
        CHECKS.same("their cost", 10, few.cost());
        CHECKS.same("the least cost, not the first", "--1 1", least(3, "20001222"));
        CoverRows close = Rows.ofTable(3, 2, "0201201120121121");
        CHECKS.same("one less cost, though the first two are later ones", "0-- 01, 1-0 10, -11 11, --1 01",
                Rows.run(close, true, 3, 2));
        CHECKS.same("its cost", 11, close.cost());
        CHECKS.same("the least first", "1- 1", least(2, "0221"));
        CHECKS.same("the least first, not the least last", "01- 1, -01 1", least(3, "02201110"));
        CHECKS.same("the least second", "10- 1, 1-0 1", least(3, "02210100"));
        CHECKS.same("the least third", "00- 1, 11- 1, 1-0 1", least(3, "21021001"));
    }

    private static String least(int inputs, String kinds) {
        return Rows.run(Rows.ofTable(inputs, 1, kinds), true, inputs, 1);
    }

    private static void quickOnes() {
        CHECKS.sentence("The QUICK one: as long as some ON assignment of an output is not had: the prime that has most "
                + "of these (of both outputs together), of several the one with the least cost, then the first one; "
                + "then from the one that came last to the first one: it is dropped if those that are left are a "
                + "cover.");
        CHECKS.same("no ON assignment", "", quick(3, "22200022"));
        CHECKS.same("most of both outputs together", "00 11",
                Rows.run(Rows.ofTable(2, 2, "10201200"), false, 2, 2));
        CHECKS.same("most of those not had, not of all", "0-1 1, 10- 1", quick(3, "01001120"));
        CHECKS.same("the least cost", "--1 1", quick(3, "20001222"));
        CHECKS.same("the first one", "1- 1", quick(2, "0221"));
        CHECKS.same("the first one that came is dropped", "1-1 1, -10 1", quick(3, "00110101"));
        CHECKS.same("from the last to the first", "01-- 1, 0-1- 1, 0--1 1, 1-00 1, -1-1 1",
                quick(4, "0111101010111011"));
        CHECKS.same("it is not the least one", "0-0 1, -10 1", quick(3, "10112000"));
        CHECKS.same("which is", "00- 1, -10 1", least(3, "10112000"));
    }

    private static String quick(int inputs, String kinds) {
        return Rows.run(Rows.ofTable(inputs, 1, kinds), false, inputs, 1);
    }

    private static void keptCover() {
        CHECKS.sentence("THE KEPT COVER is that of the latest run() that was not too long (none at first): its terms, "
                + "by their numbers, as they were.");
        CoverRows x = Rows.of(2, 1, "1- 1", "-1 1");
        CHECKS.raises("none at first", IllegalStateException.class, x::cost);
        CHECKS.same("a run() that is too long", -1, x.run(true, 1));
        CHECKS.raises("none after it", IllegalStateException.class, x::cost);
        CHECKS.same("by their numbers", "1- 1, -1 1", Rows.run(x, false, 2, 1));
        x.literal(0, 1, 0);
        x.literal(1, 0, 0);
        CHECKS.same("the primes now", "01 1, 10 1", Rows.primes(x, 2, 1));
        CHECKS.same("as they were", "1- 1, -1 1", Rows.kept(x, 2, 2, 1));
        CHECKS.same("a run() that is too long", -1, x.run(false, 1));
        CHECKS.same("as they were", "1- 1, -1 1", Rows.kept(x, 2, 2, 1));
        CHECKS.same("the latest one", "01 1, 10 1", Rows.run(x, true, 2, 1));
        x.to(0, 0, 0);
        x.to(1, 0, 0);
        CHECKS.same("the latest one has no terms", 0, x.run(true, 0));
        CHECKS.same("but is one", 0, x.cost());
    }

    private static void sums() {
        CHECKS.sentence("All kept terms' products (each once) are a SUM.");
        CoverRows one = Rows.of(2, 2, "1- 10", "1- 01");
        one.run(true, 1);
        CHECKS.same("one product for two outputs", 1, one.divide(1));
        CHECKS.same("which is no kernel", 0, one.kernels());
        CoverRows two = Rows.of(2, 2, "1- 10", "-1 01");
        two.run(true, 3);
        CHECKS.same("products of both outputs", 1, two.kernels());
        CoverRows none = new CoverRows(2, 2);
        none.run(true, 0);
        CHECKS.same("no products", 0, none.kernels());
    }

    private static void quotients() {
        CHECKS.sentence("A QUOTIENT of a sum by a product: all products of it that have the same digits wherever that "
                + "one has no free one, with these digits free;");
        CoverRows x = Rows.of(3, 2, "--- 10", "000 01", "1-1 01");
        CHECKS.same("kept", "000 11, 1-1 11, --- 10", Rows.run(x, true, 3, 2));
        CHECKS.same("by all free", 3, x.divide(4));
        CHECKS.same("the sum itself", "0 16 26", Rows.quotient(x, 3));
        CHECKS.same("by 000", 1, x.divide(1));
        CHECKS.same("itself is all free then", "26", Rows.quotient(x, 1));
        CHECKS.same("by 1-1", 1, x.divide(2));
        CHECKS.same("a free digit is not the same", "26", Rows.quotient(x, 1));
        CoverRows y = Rows.of(3, 2, "0-- 10", "001 01", "010 01");
        CHECKS.same("kept", "001 11, 010 11, 0-- 10", Rows.run(y, true, 3, 2));
        CHECKS.same("by 0--", 3, y.divide(4));
        CHECKS.same("these digits are free", "19 21 26", Rows.quotient(y, 3));
        CHECKS.raises("no product behind the last", IndexOutOfBoundsException.class, () -> y.quotient(3));
    }

    private static void severalDivisors() {
        CHECKS.sentence("by several products: what is in the quotients by all of these.");
        CoverRows x = Rows.of(4, 2, "1--- 10", "-11- 10", "-1-- 01", "1-1- 01");
        CHECKS.same("kept", "1-1- 11, 1--- 10, -11- 11, -1-- 01", Rows.run(x, true, 4, 2));
        CHECKS.same("by 1---", 2, x.divide(0b0010));
        CHECKS.same("--1- and all free", "77 80", Rows.quotient(x, 2));
        CHECKS.same("by 1--- and -1--", 2, x.divide(0b1010));
        CHECKS.same("--1- and all free", "77 80", Rows.quotient(x, 2));
        CHECKS.same("by 1-1- and 1---", 1, x.divide(0b0011));
        CHECKS.same("all free", "80", Rows.quotient(x, 1));
        CHECKS.same("by all", 1, x.divide(0b1111));
        CHECKS.same("all free", "80", Rows.quotient(x, 1));
    }

    private static void kernels() {
        CHECKS.sentence("A KERNEL is a quotient by a product (each digit free or not) that has at least two products, "
                + "of which no digit that is not free is the same in all.");
        CHECKS.same("one product", 0, kernelsOf(3, 1, "110 1"));
        CHECKS.same("one that is all free", 0, kernelsOf(3, 1, "--- 1"));
        CHECKS.same("two, by all free", 1, kernelsOf(4, 1, "1--- 1", "-1-- 1"));
        CHECKS.same("a 1 that is the same in all", 1, kernelsOf(3, 1, "11- 1", "1-1 1"));
        CHECKS.same("a 0 that is the same in all", 1, kernelsOf(3, 1, "00- 1", "0-0 1"));
        CHECKS.same("by a product without a free digit but one", 1, kernelsOf(4, 2, "111- 10", "1111 01"));
        CHECKS.same("0 and 1 are not the same", 1, kernelsOf(1, 2, "0 10", "1 01"));
        CHECKS.same("two levels", 2, kernelsOf(3, 1, "11- 1", "1-1 1", "000 1"));
    }

    private static int kernelsOf(int inputs, int outputs, String... cubes) {
        CoverRows x = Rows.of(inputs, outputs, cubes);
        x.run(true, Long.MAX_VALUE);
        return x.kernels();
    }

    private static void diagrams() {
        CHECKS.sentence("THE DIAGRAM of both outputs' ON assignments, with inputs in some order: a node asks an input, "
                + "and goes on to two others or to FALSE and TRUE; a node whose ways are the same is none, and none "
                + "are alike;");
        for (int inputs = 1; inputs <= 4; inputs++) {
            CHECKS.same("FALSE", 0, new CoverRows(inputs, 2).diagram(0));
            CHECKS.same("TRUE", 0, Rows.of(inputs, 2, "-".repeat(inputs) + " 11").diagram(0));
            CHECKS.same("don't-cares", 0, Rows.of(inputs, 2, "1".repeat(inputs) + " 22").diagram(0));
            CHECKS.same("one assignment", inputs, Rows.of(inputs, 1, "1".repeat(inputs) + " 1").diagram(0));
            CHECKS.same("the same for both", inputs, Rows.of(inputs, 2, "1".repeat(inputs) + " 11").diagram(0));
        }
        CHECKS.same("ways that are the same", 1, Rows.of(4, 1, "--1- 1").diagram(0));
        CHECKS.same("nodes of one output that are alike", 7, Rows.ofMask(4, 0b0110100110010110).diagram(0));
        CHECKS.same("nodes of two outputs that are alike", 3, Rows.of(3, 2, "111 10", "-11 01").diagram(0));
        CHECKS.same("the most nodes", 16, mostNodes(Rows.ofTable(4, 2, "12021102202120112011010011200201")));
    }

    private static int mostNodes(CoverRows x) {
        int most = 0;
        for (int k = 0; k < 24; k++) {
            most = Math.max(most, x.diagram(k));
        }
        return most;
    }

    /** The pairs 0 and 1, 2 and 3 are small in orders that ask each pair without the other one between. */
    private static void orders() {
        CHECKS.sentence("an order is a number from 0 on: all orders of the inputs, as rows of numbers, stand one behind "
                + "the other as words do.");
        CoverRows x = Rows.of(4, 1, "11-- 1", "--11 1");
        int k = 0;
        for (String row : "0123 0132 0213 0231 0312 0321 1023 1032 1203 1230 1302 1320 2013 2031 2103 2130 2301 2310 "
                .concat("3012 3021 3102 3120 3201 3210").split(" ")) {
            boolean apart = "01 10 23 32".contains(row.substring(0, 2));
            CHECKS.same("diagram(" + k + ") asks " + row, apart ? 4 : 6, x.diagram(k));
            k++;
        }
        CoverRows choice = Rows.of(3, 1, "1-0 1", "-11 1");
        int[] nodes = {5, 4, 5, 4, 3, 3};
        for (int order = 0; order < 6; order++) {
            CHECKS.same("diagram(" + order + ") of a choice", nodes[order], choice.diagram(order));
        }
        CoverRows two = Rows.of(2, 2, "1- 10", "11 01");
        CHECKS.same("diagram(0) asks 0, 1", 3, two.diagram(0));
        CHECKS.same("diagram(1) asks 1, 0", 2, two.diagram(1));
        CHECKS.same("diagram(0) of one input", 1, Rows.of(1, 1, "0 1").diagram(0));
    }
}
