/** Short ways for tests to fill an object and to read rows of it as texts. */
final class Rows {
    private Rows() {
    }

    /** Adds cubes, each "digits kinds" with - for a free digit, as "01- 1" or "01-- 12". */
    static CoverRows fill(CoverRows x, String... cubes) {
        for (String text : cubes) {
            int gap = text.indexOf(' ');
            int cube = x.cube();
            for (int i = 0; i < gap; i++) {
                x.literal(cube, i, digit(text.charAt(i)));
            }
            for (int o = 0; gap + 1 + o < text.length(); o++) {
                x.to(cube, o, text.charAt(gap + 1 + o) - '0');
            }
        }
        return x;
    }

    static CoverRows of(int inputs, int outputs, String... cubes) {
        return fill(new CoverRows(inputs, outputs), cubes);
    }

    /** A cube for each assignment, with kinds for all assignments of output 0, then for those of output 1. */
    static CoverRows ofTable(int inputs, int outputs, String kinds) {
        CoverRows x = new CoverRows(inputs, outputs);
        for (int a = 0; a < 1 << inputs; a++) {
            int cube = x.cube();
            for (int i = 0; i < inputs; i++) {
                x.literal(cube, i, a >> i & 1);
            }
            for (int o = 0; o < outputs; o++) {
                x.to(cube, o, kinds.charAt((o << inputs) + a) - '0');
            }
        }
        return x;
    }

    /** The digits of the product with this number, as fill() reads them. */
    static String product(int number, int inputs) {
        StringBuilder text = new StringBuilder();
        for (int i = 0, rest = number; i < inputs; i++, rest /= 3) {
            text.insert(0, "01-".charAt(rest % 3));
        }
        return text.toString();
    }

    static int power(int base, int exponent) {
        return exponent == 0 ? 1 : base * power(base, exponent - 1);
    }

    /** Whether the product has the assignment, digit by digit. */
    static boolean has(String product, int assignment) {
        for (int i = 0; i < product.length(); i++) {
            if (product.charAt(i) != '-' && product.charAt(i) - '0' != (assignment >> i & 1)) {
                return false;
            }
        }
        return true;
    }

    /** Runs, and shows the terms that are kept then. */
    static String run(CoverRows x, boolean exact, int inputs, int outputs) {
        return kept(x, x.run(exact, Long.MAX_VALUE), inputs, outputs);
    }

    /** One cube for each assignment that is ON in the mask, for output 0. */
    static CoverRows ofMask(int inputs, int on) {
        CoverRows x = new CoverRows(inputs, 1);
        addMask(x, inputs, 0, on);
        return x;
    }

    static void addMask(CoverRows x, int inputs, int output, int on) {
        for (int a = 0; a < 1 << inputs; a++) {
            if ((on >> a & 1) == 1) {
                int cube = x.cube();
                for (int i = 0; i < inputs; i++) {
                    x.literal(cube, i, a >> i & 1);
                }
                x.to(cube, output, 1);
            }
        }
    }

    private static int digit(char c) {
        return c == '-' ? 2 : c - '0';
    }

    static String primes(CoverRows x, int inputs, int outputs) {
        StringBuilder text = new StringBuilder();
        for (int k = 0; k < x.primes(); k++) {
            text.append(k == 0 ? "" : ", ");
            for (int i = 0; i < inputs + outputs; i++) {
                text.append(i == inputs ? " " : "").append(show(x.prime(k, i), i < inputs));
            }
        }
        return text.toString();
    }

    static String kept(CoverRows x, int terms, int inputs, int outputs) {
        StringBuilder text = new StringBuilder();
        for (int k = 0; k < terms; k++) {
            text.append(k == 0 ? "" : ", ");
            for (int i = 0; i < inputs + outputs; i++) {
                text.append(i == inputs ? " " : "").append(show(x.at(k, i), i < inputs));
            }
        }
        return text.toString();
    }

    private static char show(int v, boolean isDigit) {
        return isDigit && v == 2 ? '-' : (char) ('0' + v);
    }

    static String quotient(CoverRows x, int count) {
        StringBuilder text = new StringBuilder();
        for (int k = 0; k < count; k++) {
            text.append(k == 0 ? "" : " ").append(x.quotient(k));
        }
        return text.toString();
    }
}
