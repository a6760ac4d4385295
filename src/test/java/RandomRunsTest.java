import java.util.Random;

/** All promises: long runs of calls, right ones and wrong ones, against PlainCovers. */
public final class RandomRunsTest {
    private static final int RUNS = 250;
    /** As many as the document lets an object be used for. */
    private static final int CALLS = 512;

    public static void main(String[] args) {
        Checks checks = new Checks("RandomRunsTest");
        for (int seed = 0; seed < RUNS; seed++) {
            oneRun(checks, seed);
        }
        checks.end();
    }

    private static void oneRun(Checks checks, int seed) {
        Random random = new Random(seed);
        int inputs = random.nextInt(8) - 1;
        int outputs = random.nextInt(5) - 1;
        CoverRows x = new CoverRows(inputs, outputs);
        PlainCovers y = new PlainCovers(inputs, outputs);
        String made = "seed " + seed + ", new CoverRows(" + inputs + ", " + outputs + ")";
        for (int n = 0; n < CALLS; n++) {
            oneCall(checks, made + " call " + n + ": ", random, x, y);
        }
    }

    private static void oneCall(Checks checks, String where, Random random, CoverRows x, PlainCovers y) {
        int kind = random.nextInt(100);
        int a = random.nextInt(7) - 1;
        int b = random.nextInt(7) - 1;
        int v = random.nextInt(20) == 0 ? random.nextInt(5) - 1 : random.nextInt(3);
        if (kind < 8) {
            both(checks, where + "cube()", x::cube, y::cube);
        } else if (kind < 32) {
            int cube = random.nextInt(20) - 1;
            both(checks, where + "literal(" + cube + ", " + a + ", " + v + ")",
                    () -> Checks.bit(x.literal(cube, a, v)), () -> Checks.bit(y.literal(cube, a, v)));
        } else if (kind < 46) {
            int cube = random.nextInt(20) - 1;
            int output = random.nextInt(4) == 0 ? a : random.nextInt(2);
            both(checks, where + "to(" + cube + ", " + output + ", " + v + ")",
                    () -> Checks.bit(x.to(cube, output, v)), () -> Checks.bit(y.to(cube, output, v)));
        } else if (kind < 50) {
            both(checks, where + "primes()", x::primes, y::primes);
        } else if (kind < 56) {
            both(checks, where + "prime(" + a + ", " + b + ")", () -> x.prime(a, b), () -> y.prime(a, b));
        } else if (kind < 64) {
            boolean exact = random.nextBoolean();
            long steps = random.nextInt(3) == 0 ? random.nextInt(10) - 2 : Long.MAX_VALUE;
            both(checks, where + "run(" + exact + ", " + steps + ")",
                    () -> x.run(exact, steps), () -> y.run(exact, steps));
        } else {
            askOfKept(checks, where, random, x, y);
        }
    }

    private static void askOfKept(Checks checks, String where, Random random, CoverRows x, PlainCovers y) {
        int a = random.nextInt(7) - 1;
        int b = random.nextInt(8) - 1;
        switch (random.nextInt(21)) {
            case 0, 1, 2 -> both(checks, where + "at(" + a + ", " + b + ")", () -> x.at(a, b), () -> y.at(a, b));
            case 3 -> both(checks, where + "tautology()",
                    () -> Checks.bit(x.tautology()), () -> Checks.bit(y.tautology()));
            case 4, 5 -> both(checks, where + "cost()", x::cost, y::cost);
            case 6, 7 -> both(checks, where + "kernels()", x::kernels, y::kernels);
            case 8, 9, 10 -> {
                int set = random.nextInt(10) == 0 ? random.nextInt() : random.nextInt(8);
                both(checks, where + "divide(" + set + ")", () -> x.divide(set), () -> y.divide(set));
            }
            case 11, 12, 13 -> both(checks, where + "quotient(" + a + ")", () -> x.quotient(a), () -> y.quotient(a));
            case 14, 15 -> {
                int order = random.nextInt(27) - 1;
                both(checks, where + "diagram(" + order + ")", () -> x.diagram(order), () -> y.diagram(order));
            }
            case 16 -> both(checks, where + "order()", x::order, y::order);
            case 17 -> both(checks, where + "equal()", () -> Checks.bit(x.equal()), () -> Checks.bit(y.equal()));
            case 18, 19 -> {
                long input = random.nextInt(8) == 0 ? random.nextLong() : random.nextInt(19) - 1;
                int output = random.nextInt(4) - 1;
                both(checks, where + "value(" + input + ", " + output + ")",
                        () -> Checks.bit(x.value(input, output)), () -> Checks.bit(y.value(input, output)));
            }
            default -> {
                if (random.nextInt(3) == 0) {
                    x.clear();
                    y.clear();
                }
            }
        }
    }

    private static void both(Checks checks, String what, Checks.Call got, Checks.Call want) {
        checks.same(what, Checks.outcome(want), Checks.outcome(got));
    }
}
