/** Promises 14 and 15: diagram, order. */
public final class DiagramTest {
    private static final Checks CHECKS = new Checks("DiagramTest");

    public static void main(String[] args) {
        smallOnes();
        twoOutputs();
        orders();
        wrongOrders();
        CHECKS.end();
    }

    private static void smallOnes() {
        CHECKS.same("FALSE", 0, new CoverRows(3, 1).diagram(0));
        CHECKS.same("TRUE", 0, Rows.of(3, 1, "--- 1").diagram(5));
        CHECKS.same("don't-cares are not ON", 0, Rows.of(3, 1, "1-- 2").diagram(0));
        CHECKS.same("one input", 1, Rows.of(1, 1, "1 1").diagram(0));
        CHECKS.same("one input of three", 1, Rows.of(3, 1, "-0- 1").diagram(3));
        CHECKS.same("a product", 4, Rows.of(4, 1, "0110 1").diagram(7));
        CHECKS.same("parity", 7, Rows.ofMask(4, 0b0110100110010110).diagram(23));
        CHECKS.same("not all alike", 5, Rows.ofMask(3, 0b01111110).diagram(0));
    }

    private static void twoOutputs() {
        CHECKS.same("the same twice", 2, Rows.of(2, 2, "11 11").diagram(0));
        CHECKS.same("one and its part", 3, Rows.of(3, 2, "111 10", "-11 01").diagram(0));
        CHECKS.same("no part in this order", 5, Rows.of(3, 2, "111 10", "-11 01").diagram(5));
        CHECKS.same("one and its other", 2, Rows.of(1, 2, "1 10", "0 01").diagram(0));
        CHECKS.same("FALSE and TRUE", 0, Rows.of(2, 2, "-- 10").diagram(1));
    }

    /** Pairs (0 and 1, 2 and 3) are small if they are asked one behind the other. */
    private static void orders() {
        CoverRows x = Rows.of(4, 1, "11-- 1", "--11 1");
        int[] nodes = {4, 4, 6, 6, 6, 6, 4, 4, 6, 6, 6, 6, 6, 6, 6, 6, 4, 4, 6, 6, 6, 6, 4, 4};
        for (int k = 0; k < 24; k++) {
            CHECKS.same("diagram(" + k + ")", nodes[k], x.diagram(k));
        }
        CHECKS.same("order()", 0, x.order());
        CHECKS.same("order() of 0 and 2, 1 and 3", 2, Rows.of(4, 1, "1-1- 1", "-1-1 1").order());
        CHECKS.same("order() of 0 and 3, 1 and 2", 4, Rows.of(4, 1, "1--1 1", "-11- 1").order());
        // Input 2 says which of the others is asked: it should come first.
        CoverRows choice = Rows.of(3, 1, "1-0 1", "-11 1");
        int[] choiceNodes = {5, 4, 5, 4, 3, 3};
        for (int k = 0; k < 6; k++) {
            CHECKS.same("diagram(" + k + ") of a choice", choiceNodes[k], choice.diagram(k));
        }
        CHECKS.same("order() of a choice", 4, choice.order());
        CHECKS.same("order() of nothing", 0, new CoverRows(4, 2).order());
        CHECKS.same("order() of one input", 0, Rows.of(1, 1, "1 1").order());
        choice.clear();
        CHECKS.same("order() after clear()", 0, choice.order());
    }

    private static void wrongOrders() {
        int[] many = {1, 2, 6, 24};
        for (int inputs = 1; inputs <= 4; inputs++) {
            CoverRows x = new CoverRows(inputs, 2);
            int behind = many[inputs - 1];
            CHECKS.same("the last order", 0, x.diagram(behind - 1));
            for (int order : new int[] {behind, -1, Integer.MIN_VALUE, Integer.MAX_VALUE}) {
                CHECKS.raises("diagram(" + order + ")", IllegalArgumentException.class, () -> x.diagram(order));
            }
        }
    }
}
