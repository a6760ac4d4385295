import java.util.Random;

/** Promises 5 to 17: whole tables of kinds against PlainCovers, all small ones and some that are hard. */
public final class TablesTest {
    private static final Checks CHECKS = new Checks("TablesTest");
    /** Tables of four inputs and two outputs on which the search for the least cover takes longest. */
    private static final String[] HARD = {
        "11012210201111011110021112011110", "12210111111011112110121110011110",
        "21101001100101120111111111111110", "21101011101111020111111011101021"};

    /** Tables on which the least sum of costs is one below that of a cover with less first primes. */
    private static final String[] CLOSE = {
        "10111101011011111111111011110101", "21120222212212122121222122021121",
        "12211211121101210101111110121022"};

    public static void main(String[] args) {
        allTables(3, 1);
        allTables(2, 2);
        for (String kinds : HARD) {
            oneTable(4, 2, kinds);
        }
        for (String kinds : CLOSE) {
            oneTable(4, 2, kinds);
        }
        oneTable(3, 2, "0201201120121121");
        Random random = new Random(7);
        for (int n = 0; n < 200; n++) {
            oneTable(4, 2, randomKinds(random, 32));
        }
        CHECKS.end();
    }

    private static void allTables(int inputs, int outputs) {
        int places = outputs << inputs;
        int many = 1;
        for (int n = 0; n < places; n++) {
            many *= 3;
        }
        for (int n = 0; n < many; n++) {
            StringBuilder kinds = new StringBuilder(Integer.toString(n, 3));
            while (kinds.length() < places) {
                kinds.insert(0, '0');
            }
            oneTable(inputs, outputs, kinds.toString());
        }
    }

    private static String randomKinds(Random random, int places) {
        int share = random.nextInt(9);
        StringBuilder kinds = new StringBuilder();
        for (int n = 0; n < places; n++) {
            kinds.append(random.nextInt(10) < share ? 1 : random.nextInt(3));
        }
        return kinds.toString();
    }

    private static void oneTable(int inputs, int outputs, String kinds) {
        CoverRows x = new CoverRows(inputs, outputs);
        PlainCovers y = new PlainCovers(inputs, outputs);
        for (int a = 0; a < 1 << inputs; a++) {
            x.cube();
            y.cube();
            for (int i = 0; i < inputs; i++) {
                x.literal(a, i, a >> i & 1);
                y.literal(a, i, a >> i & 1);
            }
            for (int o = 0; o < outputs; o++) {
                int kind = kinds.charAt((o << inputs) + a) - '0';
                x.to(a, o, kind);
                y.to(a, o, kind);
            }
        }
        String what = inputs + " inputs, " + outputs + " outputs, " + kinds + ": ";
        CHECKS.same(what + "primes()", y.primes(), x.primes());
        CHECKS.same(what + "tautology()", Checks.bit(y.tautology()), Checks.bit(x.tautology()));
        CHECKS.same(what + "order()", y.order(), x.order());
        CHECKS.same(what + "diagram(order())", y.diagram(y.order()), x.diagram(x.order()));
        covers(what + "quick ", x, y, false, inputs + outputs);
        covers(what + "least ", x, y, true, inputs + outputs);
    }

    private static void covers(String what, CoverRows x, PlainCovers y, boolean exact, int columns) {
        int terms = y.run(exact, 99);
        CHECKS.same(what + "run()", terms, x.run(exact, 99));
        StringBuilder want = new StringBuilder();
        StringBuilder got = new StringBuilder();
        for (int k = 0; k < terms; k++) {
            for (int i = 0; i < columns; i++) {
                int term = k;
                int column = i;
                want.append(Checks.outcome(() -> y.at(term, column)));
                got.append(Checks.outcome(() -> x.at(term, column)));
            }
            want.append(' ');
            got.append(' ');
        }
        CHECKS.same(what + "terms", want.toString(), got.toString());
        CHECKS.same(what + "cost()", y.cost(), x.cost());
        CHECKS.same(what + "kernels()", y.kernels(), x.kernels());
        CHECKS.yes(what + "equal()", x.equal());
        for (int k = 0; k < terms; k++) {
            int set = 1 << k | 1 << terms / 2;
            CHECKS.same(what + "divide(" + set + ")", y.divide(set), x.divide(set));
        }
    }
}
