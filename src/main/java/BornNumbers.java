public final class BornNumbers {
    public static final int BAD = -1, NO = -2, FAR = -3, NONE = -4, HIGH = -5;

    private static final int BAD_VALUE = -1000000000;
    private static final int BAD_AGAINST = -9;
    private static final int BAD_ORDER = -9;
    private static final int BAD_TOLD = -1000000001;
    private static final int NONE_TOLD = -1000000004;

    private static final int REGISTERS = 12;
    private static final int MOST_SIGNS = 24;
    private static final int LAST_LISTED_DAY = 20;
    private static final int MOST_STALKS = 4;
    private static final int MOST_STALK_SIGNS = 14;

    private static final int SUMS = 8;
    private static final int MOST_EXPONENT = 6;
    private static final int SLOTS = 2 * MOST_EXPONENT + 1;
    private static final int MOST_ABOVE = 1000000000;
    private static final int MOST_BELOW = 20;
    private static final int MOST_ROUNDS = 20;

    // A row of 24 signs has at most 23 behind its first run, so a 2 to the -23 measures every row exactly.
    private static final int ROW_SCALE = MOST_SIGNS - 1;
    private static final long ONE = 1L << ROW_SCALE;
    private static final long BEYOND_ALL_ROWS = 1L << 60;

    // A factor is kept as one long, in parts of 2 to the -20; this one is outside of all of them.
    private static final long NO_FACTOR = 1L << 60;

    private final int[] days = new int[REGISTERS];
    private final int[] rowSigns = new int[REGISTERS];
    private final long[] values = new long[REGISTERS];
    private int pairLeft = NONE;
    private int pairRight = NONE;

    private final Sum[] sums = new Sum[SUMS];
    // Results are worked out here first, so that HIGH leaves the sums as they were.
    private final Sum result = new Sum();
    private final Sum rest = new Sum();

    public BornNumbers() {
        for (int z = 0; z < SUMS; z++) {
            sums[z] = new Sum();
        }
    }

    // ---- rows

    public int row(int s, int n, int signs) {
        if (!isRegister(s) || n < 0 || n > MOST_SIGNS || signs >>> n != 0) {
            return BAD;
        }
        return hold(s, n, signs);
    }

    public int number(int s, int a, int k) {
        if (!isRegister(s) || !isFraction(a, k)) {
            return BAD;
        }
        return holdValue(s, (long) a << (ROW_SCALE - k));
    }

    public int at(int s, int i) {
        if (!isRegister(s) || i < -1) {
            return BAD;
        }
        if (i == -1) {
            return days[s];
        }
        if (i >= days[s]) {
            return NONE;
        }
        return isPlus(rowSigns[s], i) ? 1 : 0;
    }

    public int value(int s, int what) {
        if (!isRegister(s) || what < 0 || what > 1) {
            return BAD_VALUE;
        }
        return what == 0 ? leastAbove(values[s], ROW_SCALE) : leastBelow(values[s], ROW_SCALE);
    }

    public int against(int s, int t) {
        if (!isRegister(s) || !isRegister(t)) {
            return BAD_AGAINST;
        }
        return signOf(values[s] - values[t]);
    }

    public int work(int s, int how, int t, int u) {
        if (!isRegister(s) || how < 0 || how > 3 || !isRegister(t)) {
            return BAD;
        }
        if (how == 3) {
            return holdValue(s, -values[t]);
        }
        if (!isRegister(u)) {
            return BAD;
        }
        if (how == 2) {
            return holdProduct(s, values[t] * values[u]);
        }
        return holdValue(s, how == 0 ? values[t] + values[u] : values[t] - values[u]);
    }

    public int side(int s, int t, int side) {
        if (!isRegister(s) || !isRegister(t) || side < 0 || side > 1) {
            return BAD;
        }
        // A beginning is less than the whole just if a + comes next, so the longest one ends at the last +.
        boolean sought = side == 0;
        for (int n = days[t] - 1; n >= 0; n--) {
            if (isPlus(rowSigns[t], n) == sought) {
                return hold(s, n, rowSigns[t] & lowBits(n));
            }
        }
        return NO;
    }

    public int cut(int s, int left, int right) {
        if (!isRegister(s) || !areRegisters(left) || !areRegisters(right)) {
            return BAD;
        }
        if (findPair(left, right)) {
            return NO;
        }
        return holdSimplest(s, leastAboveAll(left), greatestBelowAll(right));
    }

    public int pair(int what) {
        if (what < 0 || what > 1) {
            return BAD;
        }
        return what == 0 ? pairLeft : pairRight;
    }

    public int born(int s, int day, int i) {
        if (!isRegister(s) || !isListedDay(day) || i < 0 || i >= 1 << day) {
            return BAD;
        }
        // Rows of one day are ordered like words, - ahead of +: the first sign weighs most.
        return hold(s, day, turnedRound(i, day));
    }

    public int between(int s, int t, int day) {
        if (!isRegister(s) || !isRegister(t) || !isListedDay(day)) {
            return BAD;
        }
        if (values[s] >= values[t]) {
            return NO;
        }
        int lowerEnd = days[s] <= day ? 1 : 0;
        return countLess(t, day) - countLess(s, day) - lowerEnd;
    }

    // ---- stalks

    public int wins(int stalks, int who) {
        if (!areRegisters(stalks) || who < 0 || who > 1) {
            return BAD;
        }
        int signs = 0;
        long together = 0;
        for (int s = 0; s < REGISTERS; s++) {
            if (has(stalks, s)) {
                signs += days[s];
                together += values[s];
            }
        }
        if (Integer.bitCount(stalks) > MOST_STALKS || signs > MOST_STALK_SIGNS) {
            return NO;
        }
        // Stalks of two colours are numbers: whom the sum favours wins, and at 0 the one who moves first loses.
        boolean firstWins = who == 0 ? together > 0 : together < 0;
        return firstWins ? 1 : 0;
    }

    // ---- sums of powers

    public int term(int z, int e, int a, int k) {
        if (!isSum(z) || !isExponent(e) || !isFraction(a, k)) {
            return BAD;
        }
        sums[z].factors[e + MOST_EXPONENT] = factorOf(a, k);
        return sums[z].countTerms();
    }

    public int told(int z, int i, int what) {
        if (!isSum(z) || i < 0 || what < 0 || what > 2) {
            return BAD_TOLD;
        }
        int slot = sums[z].slotOfTerm(i);
        if (slot < 0) {
            return NONE_TOLD;
        }
        if (what == 0) {
            return slot - MOST_EXPONENT;
        }
        long factor = sums[z].factors[slot];
        return what == 1 ? leastAbove(factor, MOST_BELOW) : leastBelow(factor, MOST_BELOW);
    }

    public int sum(int z, int how, int x, int y) {
        if (!isSum(z) || how < 0 || how > 2 || !isSum(x) || !isSum(y)) {
            return BAD;
        }
        boolean fits = how == 2
            ? result.becomeProduct(sums[x], sums[y])
            : result.becomeTogether(sums[x], sums[y], how == 1);
        if (!fits) {
            return HIGH;
        }
        sums[z].become(result);
        return sums[z].countTerms();
    }

    public int divide(int q, int r, int x, int y, int rounds) {
        if (!isSum(q) || !isSum(r) || q == r || !isSum(x) || !isSum(y) || rounds < 1 || rounds > MOST_ROUNDS) {
            return BAD;
        }
        Sum divisor = sums[y];
        int divisorSlot = divisor.slotOfTerm(0);
        if (divisorSlot < 0 || !isPowerOfTwo(divisor.factors[divisorSlot])) {
            return NO;
        }
        result.clear();
        rest.become(sums[x]);
        int done = 0;
        while (done < rounds) {
            int restSlot = rest.slotOfTerm(0);
            if (restSlot < 0 || restSlot - divisorSlot < -MOST_EXPONENT) {
                break;
            }
            if (!divideOnce(divisor, divisorSlot, restSlot)) {
                return HIGH;
            }
            done++;
        }
        sums[q].become(result);
        sums[r].become(rest);
        return done;
    }

    public int order(int x, int y) {
        if (!isSum(x) || !isSum(y)) {
            return BAD_ORDER;
        }
        if (!result.becomeTogether(sums[x], sums[y], true)) {
            return HIGH;
        }
        int slot = result.slotOfTerm(0);
        return slot < 0 ? 0 : signOf(result.factors[slot]);
    }

    public int take(int z, int s) {
        if (!isSum(z) || !isRegister(s)) {
            return BAD;
        }
        long factor = factorOf(values[s], ROW_SCALE);
        if (factor == NO_FACTOR) {
            return HIGH;
        }
        sums[z].clear();
        sums[z].factors[MOST_EXPONENT] = factor;
        return sums[z].countTerms();
    }

    public int near(int s, int z) {
        if (!isRegister(s) || !isSum(z)) {
            return BAD;
        }
        if (sums[z].slotOfTerm(0) > MOST_EXPONENT) {
            return NO;
        }
        return holdValue(s, sums[z].factors[MOST_EXPONENT] << (ROW_SCALE - MOST_BELOW));
    }

    // ---- what numbers are told

    private static boolean isRegister(int s) {
        return s >= 0 && s < REGISTERS;
    }

    private static boolean areRegisters(int bits) {
        return bits >>> REGISTERS == 0;
    }

    private static boolean isListedDay(int day) {
        return day >= 0 && day <= LAST_LISTED_DAY;
    }

    private static boolean isSum(int z) {
        return z >= 0 && z < SUMS;
    }

    private static boolean isExponent(int e) {
        return e >= -MOST_EXPONENT && e <= MOST_EXPONENT;
    }

    private static boolean isFraction(int a, int k) {
        return a >= -MOST_ABOVE && a <= MOST_ABOVE && k >= 0 && k <= MOST_BELOW;
    }

    // ---- bits and signs

    private static boolean has(int bits, int s) {
        return (bits >>> s & 1) == 1;
    }

    private static boolean isPlus(int signs, int i) {
        return has(signs, i);
    }

    private static int lowBits(int n) {
        return (1 << n) - 1;
    }

    private static int turnedRound(int bits, int n) {
        int turned = 0;
        for (int i = 0; i < n; i++) {
            turned = turned << 1 | bits >>> i & 1;
        }
        return turned;
    }

    private static int signOf(long number) {
        if (number == 0) {
            return 0;
        }
        return number < 0 ? -1 : 1;
    }

    private static boolean isPowerOfTwo(long factor) {
        return Long.bitCount(Math.abs(factor)) == 1;
    }

    // ---- fractions: parts by 2 to the scale

    private static int halvings(long parts) {
        // The lowest 1 less one is a 1 for each 0 behind it; 0 itself can be halved as often as it has bits.
        return Long.bitCount((parts & -parts) - 1);
    }

    private static int leastBelow(long parts, int scale) {
        return Math.max(0, scale - halvings(parts));
    }

    private static int leastAbove(long parts, int scale) {
        return (int) (parts >> (scale - leastBelow(parts, scale)));
    }

    private static long factorOf(long parts, int scale) {
        int k = leastBelow(parts, scale);
        long a = parts >> (scale - k);
        if (k > MOST_BELOW || a < -MOST_ABOVE || a > MOST_ABOVE) {
            return NO_FACTOR;
        }
        return a << (MOST_BELOW - k);
    }

    private static long factorProduct(long f, long g) {
        // The parts of both would not fit into a long, the least forms do.
        long a = (long) leastAbove(f, MOST_BELOW) * leastAbove(g, MOST_BELOW);
        return factorOf(a, leastBelow(f, MOST_BELOW) + leastBelow(g, MOST_BELOW));
    }

    private static long factorQuotient(long f, long powerOfTwo) {
        return factorOf(powerOfTwo < 0 ? -f : f, halvings(powerOfTwo));
    }

    // ---- making rows

    private int hold(int s, int n, int signs) {
        days[s] = n;
        rowSigns[s] = signs;
        values[s] = worth(n, signs);
        return n;
    }

    private static long worth(int n, int signs) {
        boolean first = isPlus(signs, 0);
        boolean firstRun = true;
        long weight = ONE;
        long worth = 0;
        for (int i = 0; i < n; i++) {
            boolean plus = isPlus(signs, i);
            firstRun = firstRun && plus == first;
            if (!firstRun) {
                weight /= 2;
            }
            worth += plus ? weight : -weight;
        }
        return worth;
    }

    private int holdValue(int s, long worth) {
        return holdSimplest(s, worth, worth);
    }

    private int holdProduct(int s, long product) {
        // The scale is in it twice; what one scale can't tell has more than 24 signs.
        if (product % ONE != 0) {
            return FAR;
        }
        return holdValue(s, product / ONE);
    }

    private int holdSimplest(int s, long least, long greatest) {
        int signs = 0;
        for (int n = 0; n <= MOST_SIGNS; n++) {
            long worth = worth(n, signs);
            if (worth < least) {
                signs |= 1 << n;
            } else if (worth <= greatest) {
                return hold(s, n, signs);
            }
        }
        return FAR;
    }

    // ---- heaps

    private boolean findPair(int left, int right) {
        for (int l = 0; l < REGISTERS; l++) {
            for (int r = 0; r < REGISTERS; r++) {
                if (has(left, l) && has(right, r) && values[l] >= values[r]) {
                    pairLeft = l;
                    pairRight = r;
                    return true;
                }
            }
        }
        return false;
    }

    // One part more or less makes 'above' and 'below' of 'at least' and 'at most': no row lies between parts.

    private long leastAboveAll(int left) {
        long least = -BEYOND_ALL_ROWS;
        for (int s = 0; s < REGISTERS; s++) {
            if (has(left, s)) {
                least = Math.max(least, values[s] + 1);
            }
        }
        return least;
    }

    private long greatestBelowAll(int right) {
        long greatest = BEYOND_ALL_ROWS;
        for (int s = 0; s < REGISTERS; s++) {
            if (has(right, s)) {
                greatest = Math.min(greatest, values[s] - 1);
            }
        }
        return greatest;
    }

    private int countLess(int s, int day) {
        int count = 0;
        for (int i = 0; i < days[s] && i <= day; i++) {
            if (isPlus(rowSigns[s], i)) {
                // The beginning of i signs, and all that go on from it with a -.
                count += 1 << (day - i);
            }
        }
        if (days[s] <= day) {
            count += lowBits(day - days[s]);
        }
        return count;
    }

    // ---- a round of a division

    private boolean divideOnce(Sum divisor, int divisorSlot, int restSlot) {
        int exponent = restSlot - divisorSlot;
        long factor = factorQuotient(rest.factors[restSlot], divisor.factors[divisorSlot]);
        return result.put(exponent, factor) && rest.putProducts(exponent, -factor, divisor);
    }

    private static final class Sum {
        // Slot i is for the exponent i - 6; 0 stands where there is no term.
        private final long[] factors = new long[SLOTS];

        private int countTerms() {
            int count = 0;
            for (int slot = 0; slot < SLOTS; slot++) {
                if (factors[slot] != 0) {
                    count++;
                }
            }
            return count;
        }

        private int slotOfTerm(int i) {
            int ahead = i;
            for (int slot = SLOTS - 1; slot >= 0; slot--) {
                if (factors[slot] != 0) {
                    if (ahead == 0) {
                        return slot;
                    }
                    ahead--;
                }
            }
            return -1;
        }

        private void clear() {
            for (int slot = 0; slot < SLOTS; slot++) {
                factors[slot] = 0;
            }
        }

        private void become(Sum other) {
            for (int slot = 0; slot < SLOTS; slot++) {
                factors[slot] = other.factors[slot];
            }
        }

        // The answers below are false for HIGH; what has been put until then stays.

        private boolean put(int exponent, long factor) {
            if (!isExponent(exponent) || factor == NO_FACTOR) {
                return false;
            }
            int slot = exponent + MOST_EXPONENT;
            long together = factorOf(factors[slot] + factor, MOST_BELOW);
            if (together == NO_FACTOR) {
                return false;
            }
            factors[slot] = together;
            return true;
        }

        private boolean putProducts(int exponent, long factor, Sum other) {
            for (int slot = SLOTS - 1; slot >= 0; slot--) {
                long second = other.factors[slot];
                if (second != 0 && !put(exponent + slot - MOST_EXPONENT, factorProduct(factor, second))) {
                    return false;
                }
            }
            return true;
        }

        private boolean becomeTogether(Sum x, Sum y, boolean less) {
            become(x);
            for (int slot = SLOTS - 1; slot >= 0; slot--) {
                long factor = y.factors[slot];
                if (factor != 0 && !put(slot - MOST_EXPONENT, less ? -factor : factor)) {
                    return false;
                }
            }
            return true;
        }

        private boolean becomeProduct(Sum x, Sum y) {
            clear();
            for (int slot = SLOTS - 1; slot >= 0; slot--) {
                long factor = x.factors[slot];
                if (factor != 0 && !putProducts(slot - MOST_EXPONENT, factor, y)) {
                    return false;
                }
            }
            return true;
        }
    }
}
