/**
 * Covers in two levels: cubes with don't-cares for one or two outputs, all primes, least covers and
 * quick ones, division of a cover, its kernels, and decision diagrams in any order of inputs.
 *
 * <p>Sets of assignments are masks: bit a stands for assignment a, so 16 bits are enough. All rows are
 * made with the object and used again, so no call makes an array.
 */
public final class CoverRows {
    public static final int NONE = -1;

    private static final int MOST_INPUTS = 4;
    private static final int MOST_OUTPUTS = 2;
    private static final int MOST_CUBES = 24;
    private static final int MOST_PRODUCTS = 81;
    private static final int MOST_ASSIGNMENTS = 16;
    private static final int FREE = 2;
    private static final int NOTHING = 0;
    private static final int ON = 1;
    private static final int DONT_CARE = 2;

    private final int inputs;
    private final int outputs;
    private final Cubes cubes;
    private final Terms primes;
    private final PrimeFinder primeFinder;
    private final CoverFinder coverFinder;
    private final Terms kept;
    private final Division division;
    private final Diagrams diagrams;
    private boolean hasKept;
    private boolean primesAreOld;

    public CoverRows(int inputs, int outputs) {
        this.inputs = Math.max(1, Math.min(MOST_INPUTS, inputs));
        this.outputs = Math.max(1, Math.min(MOST_OUTPUTS, outputs));
        Products products = new Products(this.inputs);
        this.cubes = new Cubes(products, this.outputs);
        this.primes = new Terms(products);
        this.primeFinder = new PrimeFinder(products, this.outputs);
        this.coverFinder = new CoverFinder(this.outputs);
        this.kept = new Terms(products);
        this.division = new Division(products);
        this.diagrams = new Diagrams(this.inputs, this.outputs);
        this.hasKept = false;
        this.primesAreOld = false;
    }

    public int cube() throws UnsupportedOperationException {
        if (cubes.isFull()) {
            throw new UnsupportedOperationException("there are 24 cubes");
        }
        return cubes.add();
    }

    public boolean literal(int cube, int input, int v) throws IndexOutOfBoundsException, IllegalArgumentException {
        if (!cubes.holds(cube) || input < 0 || input >= inputs) {
            throw new IndexOutOfBoundsException("no such cube or input");
        }
        if (v < 0 || v > FREE) {
            throw new IllegalArgumentException("no such digit");
        }
        boolean changed = cubes.setDigit(cube, input, v);
        primesAreOld = primesAreOld || changed;
        return changed;
    }

    public boolean to(int cube, int output, int kind) throws IndexOutOfBoundsException, IllegalArgumentException {
        if (!cubes.holds(cube) || output < 0 || output >= outputs) {
            throw new IndexOutOfBoundsException("no such cube or output");
        }
        if (kind < NOTHING || kind > DONT_CARE) {
            throw new IllegalArgumentException("no such kind");
        }
        boolean changed = cubes.setKind(cube, output, kind);
        primesAreOld = primesAreOld || changed;
        return changed;
    }

    public int primes() {
        renewPrimes();
        return primes.size();
    }

    public int prime(int k, int i) throws IndexOutOfBoundsException {
        renewPrimes();
        if (!primes.holds(k) || !isColumn(i)) {
            throw new IndexOutOfBoundsException("no such prime, input or output");
        }
        return primes.column(k, i);
    }

    public int run(boolean exact, long steps) throws IllegalArgumentException {
        if (steps < 0) {
            throw new IllegalArgumentException("steps are below 0");
        }
        renewPrimes();
        if (primes.size() > steps) {
            return NONE;
        }
        coverFinder.find(primes, cubes, exact);
        kept.takeFrom(primes, coverFinder.found());
        hasKept = true;
        division.forget();
        return kept.size();
    }

    public int at(int term, int i) throws IllegalStateException, IndexOutOfBoundsException {
        needKept();
        if (!kept.holds(term) || !isColumn(i)) {
            throw new IndexOutOfBoundsException("no such term, input or output");
        }
        return kept.column(term, i);
    }

    public boolean tautology() {
        int all = (1 << (1 << inputs)) - 1;
        for (int o = 0; o < outputs; o++) {
            if (cubes.notOff(o) != all) {
                return false;
            }
        }
        return true;
    }

    public long cost() throws IllegalStateException {
        needKept();
        long sum = 0;
        for (int k = 0; k < kept.size(); k++) {
            sum += kept.costOf(k);
        }
        return sum;
    }

    public int kernels() throws IllegalStateException {
        needKept();
        return division.countKernels(kept);
    }

    public int divide(int set) throws IllegalStateException, IllegalArgumentException {
        needKept();
        if (set == 0 || hasBitFrom(set, kept.size())) {
            throw new IllegalArgumentException("no term, or one that is not kept");
        }
        return division.keepQuotient(kept, set);
    }

    public int quotient(int k) throws IndexOutOfBoundsException {
        if (!division.holds(k)) {
            throw new IndexOutOfBoundsException("no such product, or no quotient");
        }
        return division.product(k);
    }

    public int diagram(int order) throws IllegalArgumentException {
        if (order < 0 || order >= diagrams.orders()) {
            throw new IllegalArgumentException("no such order");
        }
        return diagrams.nodes(order, cubes);
    }

    public int order() {
        int best = 0;
        int fewest = diagrams.nodes(0, cubes);
        for (int k = 1; k < diagrams.orders(); k++) {
            int nodes = diagrams.nodes(k, cubes);
            if (nodes < fewest) {
                fewest = nodes;
                best = k;
            }
        }
        return best;
    }

    public boolean equal() throws IllegalStateException {
        needKept();
        for (int o = 0; o < outputs; o++) {
            int had = kept.hadByAllFor(o);
            if ((cubes.on(o) & ~had) != 0 || (had & ~cubes.notOff(o)) != 0) {
                return false;
            }
        }
        return true;
    }

    public boolean value(long input, int output)
            throws IllegalStateException, IndexOutOfBoundsException, IllegalArgumentException {
        needKept();
        if (output < 0 || output >= outputs) {
            throw new IndexOutOfBoundsException("no such output");
        }
        if (input < 0 || input >= (1 << inputs)) {
            throw new IllegalArgumentException("no such assignment");
        }
        return ((kept.hadByAllFor(output) >> (int) input) & 1) == 1;
    }

    /** The latest quotient stays: the document keeps it till the next run(). */
    public void clear() {
        cubes.dropAll();
        primesAreOld = true;
        kept.dropAll();
        hasKept = false;
    }

    private void needKept() {
        if (!hasKept) {
            throw new IllegalStateException("no cover is kept");
        }
    }

    private boolean isColumn(int i) {
        return i >= 0 && i < inputs + outputs;
    }

    /** A shift by 32 would be one by 0, so a count that high is looked at first. */
    private static boolean hasBitFrom(int set, int count) {
        return count < Integer.SIZE && (set >>> count) != 0;
    }

    private void renewPrimes() {
        if (primesAreOld) {
            primeFinder.find(cubes, primes);
            primesAreOld = false;
        }
    }

    /** All products of so many inputs, by their numbers. */
    private static final class Products {
        private final int inputs;
        private final int size;
        private final int[] care = new int[MOST_PRODUCTS];
        private final int[] bits = new int[MOST_PRODUCTS];
        private final int[] had = new int[MOST_PRODUCTS];

        Products(int inputs) {
            this.inputs = inputs;
            int many = 1;
            for (int i = 0; i < inputs; i++) {
                many *= 3;
            }
            this.size = Math.min(many, MOST_PRODUCTS);
            for (int p = 0; p < this.size; p++) {
                fillDigits(p);
                fillHad(p);
            }
        }

        private void fillDigits(int p) {
            int rest = p;
            for (int i = inputs - 1; i >= 0; i--) {
                int digit = rest % 3;
                rest /= 3;
                if (digit != FREE) {
                    care[p] |= 1 << i;
                    bits[p] |= digit << i;
                }
            }
        }

        private void fillHad(int p) {
            for (int a = 0; a < (1 << inputs); a++) {
                if ((a & care[p]) == bits[p]) {
                    had[p] |= 1 << a;
                }
            }
        }

        int inputs() {
            return inputs;
        }

        int size() {
            return size;
        }

        int allFree() {
            return size - 1;
        }

        /** The inputs whose digits are not free. */
        int care(int p) {
            return care[p];
        }

        /** The inputs whose digits are 1. */
        int bits(int p) {
            return bits[p];
        }

        int had(int p) {
            return had[p];
        }

        int digit(int p, int input) {
            return ((care[p] >> input) & 1) == 0 ? FREE : (bits[p] >> input) & 1;
        }

        int withDigit(int p, int input, int digit) {
            int bit = 1 << input;
            int newCare = digit == FREE ? care[p] & ~bit : care[p] | bit;
            int newBits = digit == 1 ? bits[p] | bit : bits[p] & ~bit;
            return numberOf(newCare, newBits);
        }

        int numberOf(int someCare, int someBits) {
            int number = 0;
            for (int i = 0; i < inputs; i++) {
                int digit = ((someCare >> i) & 1) == 0 ? FREE : (someBits >> i) & 1;
                number = number * 3 + digit;
            }
            return number;
        }
    }

    /** The cubes: each one's product and what it is for each output. */
    private static final class Cubes {
        private final Products products;
        private final int outputs;
        private final int[] product = new int[MOST_CUBES];
        private final int[] kind = new int[MOST_CUBES * MOST_OUTPUTS];
        private int size;

        Cubes(Products products, int outputs) {
            this.products = products;
            this.outputs = outputs;
            this.size = 0;
        }

        boolean holds(int cube) {
            return cube >= 0 && cube < size;
        }

        boolean isFull() {
            return size >= MOST_CUBES;
        }

        int add() {
            if (isFull()) {
                return NONE;
            }
            product[size] = products.allFree();
            for (int o = 0; o < outputs; o++) {
                kind[size * MOST_OUTPUTS + o] = NOTHING;
            }
            size++;
            return size - 1;
        }

        void dropAll() {
            size = 0;
        }

        boolean setDigit(int cube, int input, int digit) {
            if (products.digit(product[cube], input) == digit) {
                return false;
            }
            product[cube] = products.withDigit(product[cube], input, digit);
            return true;
        }

        boolean setKind(int cube, int output, int newKind) {
            int place = cube * MOST_OUTPUTS + output;
            if (kind[place] == newKind) {
                return false;
            }
            kind[place] = newKind;
            return true;
        }

        int on(int output) {
            return hadByKind(output, ON);
        }

        int notOff(int output) {
            return hadByKind(output, ON) | hadByKind(output, DONT_CARE);
        }

        private int hadByKind(int output, int wanted) {
            int had = 0;
            for (int c = 0; c < size; c++) {
                if (kind[c * MOST_OUTPUTS + output] == wanted) {
                    had |= products.had(product[c]);
                }
            }
            return had;
        }
    }

    /** A row of terms, each a product and its outputs as a number. */
    private static final class Terms {
        private final Products products;
        private final int[] product = new int[MOST_PRODUCTS];
        private final int[] outs = new int[MOST_PRODUCTS];
        private int size;

        Terms(Products products) {
            this.products = products;
            this.size = 0;
        }

        int size() {
            return size;
        }

        boolean holds(int k) {
            return k >= 0 && k < size;
        }

        int product(int k) {
            return product[k];
        }

        void dropAll() {
            size = 0;
        }

        void add(int newProduct, int newOuts) {
            if (size < MOST_PRODUCTS) {
                product[size] = newProduct;
                outs[size] = newOuts;
                size++;
            }
        }

        /** Those of the other row whose bits are set, in its order. */
        void takeFrom(Terms other, long set) {
            dropAll();
            for (int k = 0; k < other.size; k++) {
                if (((set >> k) & 1L) == 1L) {
                    add(other.product[k], other.outs[k]);
                }
            }
        }

        /** Digit i, or for i behind the inputs whether the term has that output. */
        int column(int k, int i) {
            int inputs = products.inputs();
            return i < inputs ? products.digit(product[k], i) : (outs[k] >> (i - inputs)) & 1;
        }

        int costOf(int k) {
            return Integer.bitCount(products.care(product[k])) + Integer.bitCount(outs[k]);
        }

        int hadFor(int k, int output) {
            return ((outs[k] >> output) & 1) == 1 ? products.had(product[k]) : 0;
        }

        int hadByAllFor(int output) {
            int had = 0;
            for (int k = 0; k < size; k++) {
                had |= hadFor(k, output);
            }
            return had;
        }
    }

    /** Finds all primes. */
    private static final class PrimeFinder {
        private final Products products;
        private final int outputs;
        private final int[] outs = new int[MOST_PRODUCTS];

        PrimeFinder(Products products, int outputs) {
            this.products = products;
            this.outputs = outputs;
        }

        void find(Cubes cubes, Terms primes) {
            fillOuts(cubes);
            primes.dropAll();
            for (int p = 0; p < products.size(); p++) {
                if (outs[p] != 0 && !isWithinWider(p)) {
                    primes.add(p, outs[p]);
                }
            }
        }

        /** A term with fewer outputs than its product can have is within another, so only the most count. */
        private void fillOuts(Cubes cubes) {
            for (int p = 0; p < products.size(); p++) {
                outs[p] = 0;
            }
            for (int o = 0; o < outputs; o++) {
                int off = ~cubes.notOff(o);
                for (int p = 0; p < products.size(); p++) {
                    if ((products.had(p) & off) == 0) {
                        outs[p] |= 1 << o;
                    }
                }
            }
        }

        /** One digit freed is enough: what lies between a term and a wider one is a term too. */
        private boolean isWithinWider(int p) {
            for (int i = 0; i < products.inputs(); i++) {
                if (products.digit(p, i) != FREE) {
                    int wider = products.withDigit(p, i, FREE);
                    if ((outs[p] & ~outs[wider]) == 0) {
                        return true;
                    }
                }
            }
            return false;
        }
    }

    /**
     * Finds the least cover or the quick one. A POINT is an ON assignment of an output, a bit of 32.
     * Sets of primes are masks of 64 bits: each output's terms, and those of both outputs, have at
     * most 13 primes of four inputs, 39 in all.
     */
    private static final class CoverFinder {
        private static final int POINTS = MOST_ASSIGNMENTS * MOST_OUTPUTS;
        private static final int COUNT_SHIFT = 56;
        private static final int COST_SHIFT = 48;
        private static final long NEVER = 1L << 62;

        private final int outputs;
        private final int[] points = new int[MOST_PRODUCTS];
        private final int[] costs = new int[MOST_PRODUCTS];
        private final long[] weights = new long[MOST_PRODUCTS];
        private final long[] havers = new long[POINTS];
        private final int[] picks = new int[POINTS];
        private int size;
        private int allPoints;
        private long found;
        private long foundWeight;

        CoverFinder(int outputs) {
            this.outputs = outputs;
        }

        long found() {
            return found;
        }

        void find(Terms primes, Cubes cubes, boolean exact) {
            fillRows(primes, cubes);
            found = quickSet();
            if (exact) {
                foundWeight = weightOf(found);
                long all = size < Long.SIZE ? (1L << size) - 1 : -1L;
                improve(allPoints, all, 0L, 0L, 0);
            }
        }

        private void fillRows(Terms primes, Cubes cubes) {
            size = primes.size();
            allPoints = 0;
            for (int o = 0; o < outputs; o++) {
                allPoints |= cubes.on(o) << (o * MOST_ASSIGNMENTS);
            }
            for (int k = 0; k < size; k++) {
                int had = 0;
                for (int o = 0; o < outputs; o++) {
                    had |= primes.hadFor(k, o) << (o * MOST_ASSIGNMENTS);
                }
                points[k] = had & allPoints;
                costs[k] = primes.costOf(k);
                weights[k] = weigh(k);
            }
            for (int e = 0; e < POINTS; e++) {
                havers[e] = haversOf(e);
            }
        }

        /**
         * Sums of weights stand in the order that the document gives to covers: count, then costs, then
         * the first primes. Of two covers alike in count and costs, the one with the prime of the lowest
         * number in which they differ comes first, and that prime's share outweighs all later ones.
         */
        private long weigh(int k) {
            return (1L << COUNT_SHIFT) + ((long) costs[k] << COST_SHIFT) - (1L << (COST_SHIFT - 1 - k));
        }

        private long weightOf(long set) {
            long sum = 0;
            for (int k = 0; k < size; k++) {
                if (isIn(set, k)) {
                    sum += weights[k];
                }
            }
            return sum;
        }

        private long haversOf(int point) {
            long set = 0;
            for (int k = 0; k < size; k++) {
                if (((points[k] >> point) & 1) == 1) {
                    set |= 1L << k;
                }
            }
            return set;
        }

        private static boolean isIn(long set, int k) {
            return ((set >> k) & 1L) == 1L;
        }

        private long quickSet() {
            long set = 0;
            int open = allPoints;
            int picked = 0;
            while (open != 0 && picked < POINTS) {
                int k = quickPick(open);
                if (k == NONE) {
                    break;
                }
                picks[picked] = k;
                picked++;
                set |= 1L << k;
                open &= ~points[k];
            }
            for (int j = picked - 1; j >= 0; j--) {
                long fewer = set & ~(1L << picks[j]);
                if (isCover(fewer)) {
                    set = fewer;
                }
            }
            return set;
        }

        private int quickPick(int open) {
            int best = NONE;
            int most = 0;
            for (int k = 0; k < size; k++) {
                int many = Integer.bitCount(points[k] & open);
                if (many > most || (best != NONE && many == most && costs[k] < costs[best])) {
                    best = k;
                    most = many;
                }
            }
            return best;
        }

        private boolean isCover(long set) {
            int had = 0;
            for (int k = 0; k < size; k++) {
                if (isIn(set, k)) {
                    had |= points[k];
                }
            }
            return had == allPoints;
        }

        /** Each level has at least one more point, so there are no more levels than points. */
        private void improve(int open, long usable, long chosen, long weight, int depth) {
            if (open == 0) {
                keepIfLighter(chosen, weight);
                return;
            }
            if (depth >= POINTS || weight >= foundWeight) {
                return;
            }
            long left = usable;
            int point = rarestPoint(open, left);
            if (Long.bitCount(havers[point] & left) > 1) {
                left = withoutDominated(open, left);
                point = rarestPoint(open, left);
                if (weight + leastWeight(open, left) >= foundWeight) {
                    return;
                }
            }
            tryHavers(havers[point] & left, open, left, chosen, weight, depth);
        }

        /** What has been tried is not usable behind it, so that no set of primes is looked at twice. */
        private void tryHavers(long row, int open, long usable, long chosen, long weight, int depth) {
            long left = usable;
            for (int k = 0; k < size; k++) {
                if (isIn(row, k)) {
                    improve(open & ~points[k], left, chosen | (1L << k), weight + weights[k], depth + 1);
                    left &= ~(1L << k);
                }
            }
        }

        private void keepIfLighter(long chosen, long weight) {
            if (weight < foundWeight) {
                foundWeight = weight;
                found = chosen;
            }
        }

        private int rarestPoint(int open, long usable) {
            int best = 0;
            int fewest = Long.SIZE + 1;
            for (int e = 0; e < POINTS; e++) {
                if (((open >> e) & 1) == 1) {
                    int many = Long.bitCount(havers[e] & usable);
                    if (many < fewest) {
                        fewest = many;
                        best = e;
                    }
                }
            }
            return best;
        }

        /** A prime is of no use if a lighter one has all the open points that it has. */
        private long withoutDominated(int open, long usable) {
            long left = usable;
            for (int k = 0; k < size; k++) {
                if (isIn(usable, k) && isDominated(k, open, usable)) {
                    left &= ~(1L << k);
                }
            }
            return left;
        }

        private boolean isDominated(int k, int open, long usable) {
            int mine = points[k] & open;
            if (mine == 0) {
                return true;
            }
            for (int j = 0; j < size; j++) {
                if (isIn(usable, j) && weights[j] < weights[k] && (mine & ~points[j]) == 0) {
                    return true;
                }
            }
            return false;
        }

        /** Points of which no prime has two need a prime each: no cover of the open ones weighs less. */
        private long leastWeight(int open, long usable) {
            long sum = 0;
            int apart = open;
            for (int n = 0; n < POINTS && apart != 0; n++) {
                long row = havers[rarestPoint(apart, usable)] & usable;
                if (row == 0) {
                    return NEVER;
                }
                long least = NEVER;
                for (int k = 0; k < size; k++) {
                    if (isIn(row, k)) {
                        least = Math.min(least, weights[k]);
                        apart &= ~points[k];
                    }
                }
                sum += least;
            }
            return sum;
        }
    }

    /** Quotients of a sum: the latest one that is kept, and the kernels. Sets of products are two masks. */
    private static final class Division {
        private final Products products;
        private final long[] kernelLow = new long[MOST_PRODUCTS];
        private final long[] kernelHigh = new long[MOST_PRODUCTS];
        private final int[] row = new int[MOST_PRODUCTS];
        private int size;
        private long low;
        private long high;
        private int sharedOnes;
        private int sharedZeros;

        Division(Products products) {
            this.products = products;
            this.size = 0;
        }

        void forget() {
            size = 0;
        }

        boolean holds(int k) {
            return k >= 0 && k < size;
        }

        int product(int k) {
            return row[k];
        }

        int keepQuotient(Terms sum, int set) {
            long bothLow = -1L;
            long bothHigh = -1L;
            for (int k = 0; k < sum.size(); k++) {
                if (k < Integer.SIZE && ((set >> k) & 1) == 1) {
                    divideBy(sum, sum.product(k));
                    bothLow &= low;
                    bothHigh &= high;
                }
            }
            fillRow(bothLow, bothHigh);
            return size;
        }

        private void fillRow(long someLow, long someHigh) {
            size = 0;
            for (int p = 0; p < products.size(); p++) {
                long half = p < Long.SIZE ? someLow >> p : someHigh >> (p - Long.SIZE);
                if ((half & 1L) == 1L) {
                    row[size] = p;
                    size++;
                }
            }
        }

        int countKernels(Terms sum) {
            int count = 0;
            for (int p = 0; p < products.size(); p++) {
                divideBy(sum, p);
                if (isKernel() && !isKnown(count)) {
                    kernelLow[count] = low;
                    kernelHigh[count] = high;
                    count++;
                }
            }
            return count;
        }

        private boolean isKernel() {
            return Long.bitCount(low) + Long.bitCount(high) >= 2 && sharedOnes == 0 && sharedZeros == 0;
        }

        private boolean isKnown(int count) {
            for (int j = 0; j < count; j++) {
                if (kernelLow[j] == low && kernelHigh[j] == high) {
                    return true;
                }
            }
            return false;
        }

        /** Leaves the quotient in low and high, and the inputs whose digit is the same in all of it. */
        private void divideBy(Terms sum, int divisor) {
            int care = products.care(divisor);
            low = 0L;
            high = 0L;
            sharedOnes = -1;
            sharedZeros = -1;
            for (int k = 0; k < sum.size(); k++) {
                int p = sum.product(k);
                if ((products.care(p) & care) == care && (products.bits(p) & care) == products.bits(divisor)) {
                    addProduct(products.care(p) & ~care, products.bits(p) & ~care);
                }
            }
        }

        private void addProduct(int care, int bits) {
            int number = products.numberOf(care, bits);
            if (number < Long.SIZE) {
                low |= 1L << number;
            } else {
                high |= 1L << (number - Long.SIZE);
            }
            sharedOnes &= bits;
            sharedZeros &= care & ~bits;
        }
    }

    /** Counts the nodes of the diagram of what is ON. */
    private static final class Diagrams {
        private static final int[] FACTORIALS = {1, 1, 2, 6, 24};

        private final int inputs;
        private final int outputs;
        private final int[] asked = new int[MOST_INPUTS];
        private final int[] tables = new int[MOST_OUTPUTS];
        private final int[] seen = new int[MOST_ASSIGNMENTS];

        Diagrams(int inputs, int outputs) {
            this.inputs = inputs;
            this.outputs = outputs;
        }

        int orders() {
            return FACTORIALS[inputs];
        }

        int nodes(int order, Cubes cubes) {
            fillAsked(order);
            for (int o = 0; o < outputs; o++) {
                tables[o] = reordered(cubes.on(o));
            }
            int count = 0;
            for (int level = 0; level < inputs; level++) {
                count += nodesOfLevel(level);
            }
            return count;
        }

        private void fillAsked(int order) {
            int rest = order;
            int left = (1 << inputs) - 1;
            for (int level = 0; level < inputs; level++) {
                int step = FACTORIALS[inputs - 1 - level];
                int skip = step > 0 ? rest / step : 0;
                rest -= skip * step;
                asked[level] = inputAfter(left, skip);
                left &= ~(1 << asked[level]);
            }
        }

        /** The input of the set before which so many others of it stand. */
        private int inputAfter(int set, int skip) {
            int before = 0;
            for (int i = 0; i < inputs; i++) {
                if (((set >> i) & 1) == 1) {
                    if (before == skip) {
                        return i;
                    }
                    before++;
                }
            }
            return 0;
        }

        /** The table with the input that is asked first as the highest bit of its places. */
        private int reordered(int on) {
            int table = 0;
            for (int place = 0; place < (1 << inputs); place++) {
                int assignment = 0;
                for (int level = 0; level < inputs; level++) {
                    int bit = (place >> (inputs - 1 - level)) & 1;
                    assignment |= bit << asked[level];
                }
                table |= ((on >> assignment) & 1) << place;
            }
            return table;
        }

        /** A node is a part of a table, once, whose halves are not the same: only there its input counts. */
        private int nodesOfLevel(int level) {
            int half = 1 << (inputs - 1 - level);
            int halfMask = (1 << half) - 1;
            int count = 0;
            for (int o = 0; o < outputs; o++) {
                for (int part = 0; part < (1 << level); part++) {
                    int first = tables[o] >> (part * 2 * half);
                    int lower = first & halfMask;
                    int upper = (first >> half) & halfMask;
                    int both = (upper << half) | lower;
                    if (lower != upper && !isSeen(both, count)) {
                        seen[count] = both;
                        count++;
                    }
                }
            }
            return count;
        }

        private boolean isSeen(int part, int count) {
            for (int j = 0; j < count; j++) {
                if (seen[j] == part) {
                    return true;
                }
            }
            return false;
        }
    }
}
