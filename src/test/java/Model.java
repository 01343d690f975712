import java.math.BigDecimal;
import java.math.BigInteger;
import java.math.RoundingMode;
import java.util.ArrayList;
import java.util.Collections;
import java.util.List;
import java.util.Map;
import java.util.TreeMap;

/**
 * The document told once more, by other ways than the program's: rows are texts, fractions are exact decimals, the
 * simplest row is looked for among wholes, halves, quarters .., and stalks are played out.
 */
final class Model {
    static final int BAD = -1, NO = -2, FAR = -3, NONE = -4, HIGH = -5;

    private static final BigDecimal ZERO = BigDecimal.ZERO;
    private static final BigDecimal ONE = BigDecimal.ONE;
    private static final BigDecimal HALF = new BigDecimal("0.5");
    private static final BigDecimal MOST = new BigDecimal(1000000000);

    private final String[] rows = new String[12];
    private final List<TreeMap<Integer, BigDecimal>> sums = new ArrayList<>();
    private int pairLeft = NONE;
    private int pairRight = NONE;

    Model() {
        for (int s = 0; s < 12; s++) {
            rows[s] = "";
        }
        for (int z = 0; z < 8; z++) {
            sums.add(emptySum());
        }
    }

    // ---- rows

    static String signsOf(int n, int bits) {
        StringBuilder text = new StringBuilder();
        for (int i = 0; i < n; i++) {
            text.append((bits >> i & 1) == 1 ? '+' : '-');
        }
        return text.toString();
    }

    static BigDecimal worth(String row) {
        BigDecimal value = ZERO;
        BigDecimal step = ONE;
        int run = 0;
        while (run < row.length() && row.charAt(run) == row.charAt(0)) {
            run++;
        }
        for (int i = 0; i < row.length(); i++) {
            if (i >= run) {
                step = step.multiply(HALF);
            }
            value = row.charAt(i) == '+' ? value.add(step) : value.subtract(step);
        }
        return value;
    }

    static BigDecimal fraction(long a, int k) {
        return new BigDecimal(a).multiply(HALF.pow(k));
    }

    private static int leastK(BigDecimal value) {
        int k = 0;
        BigDecimal parts = value;
        while (parts.stripTrailingZeros().scale() > 0) {
            parts = parts.add(parts);
            k++;
        }
        return k;
    }

    private static BigInteger above(BigDecimal value) {
        return value.multiply(new BigDecimal(BigInteger.ONE.shiftLeft(leastK(value)))).toBigIntegerExact();
    }

    /** The row of a value by its digits in base two, or null if it is too long. */
    static String rowOf(BigDecimal value) {
        BigDecimal size = value.abs();
        BigInteger whole = size.toBigInteger();
        int k = leastK(value);
        if (whole.compareTo(BigInteger.valueOf(24)) > 0 || (k > 0 ? whole.intValue() + 1 + k : whole.intValue()) > 24) {
            return null;
        }
        StringBuilder row = new StringBuilder("+".repeat(whole.intValue()));
        if (k > 0) {
            row.append("+-");
            BigInteger digits = above(size.subtract(new BigDecimal(whole)));
            for (int digit = leastK(size) - 1; digit > 0; digit--) {
                row.append(digits.testBit(digit) ? '+' : '-');
            }
        }
        String text = row.toString();
        return value.signum() < 0 ? text.replace('+', 'x').replace('-', '+').replace('x', '-') : text;
    }

    private static boolean register(int s) {
        return 0 <= s && s <= 11;
    }

    private int keep(int s, String row) {
        if (row == null) {
            return FAR;
        }
        rows[s] = row;
        return row.length();
    }

    int row(int s, int n, int signs) {
        if (!register(s) || n < 0 || n > 24 || signs < 0 || signs >= 1L << n) {
            return BAD;
        }
        return keep(s, signsOf(n, signs));
    }

    int number(int s, int a, int k) {
        if (!register(s) || Math.abs((long) a) > 1000000000L || k < 0 || k > 20) {
            return BAD;
        }
        return keep(s, rowOf(fraction(a, k)));
    }

    int at(int s, int i) {
        if (!register(s) || i < -1) {
            return BAD;
        }
        if (i == -1) {
            return rows[s].length();
        }
        return i >= rows[s].length() ? NONE : rows[s].charAt(i) == '+' ? 1 : 0;
    }

    int value(int s, int what) {
        if (!register(s) || what != 0 && what != 1) {
            return -1000000000;
        }
        return what == 0 ? above(worth(rows[s])).intValueExact() : leastK(worth(rows[s]));
    }

    int against(int s, int t) {
        return register(s) && register(t) ? worth(rows[s]).compareTo(worth(rows[t])) : -9;
    }

    int work(int s, int how, int t, int u) {
        if (!register(s) || how < 0 || how > 3 || !register(t) || how != 3 && !register(u)) {
            return BAD;
        }
        BigDecimal first = worth(rows[t]);
        BigDecimal second = how == 3 ? ZERO : worth(rows[u]);
        switch (how) {
            case 0: return keep(s, rowOf(first.add(second)));
            case 1: return keep(s, rowOf(first.subtract(second)));
            case 2: return keep(s, rowOf(first.multiply(second)));
            default: return keep(s, rowOf(first.negate()));
        }
    }

    int side(int s, int t, int side) {
        if (!register(s) || !register(t) || side != 0 && side != 1) {
            return BAD;
        }
        for (int n = rows[t].length() - 1; n >= 0; n--) {
            String beginning = rows[t].substring(0, n);
            int order = worth(beginning).compareTo(worth(rows[t]));
            if (side == 0 ? order < 0 : order > 0) {
                return keep(s, beginning);
            }
        }
        return NO;
    }

    int cut(int s, int left, int right) {
        if (!register(s) || left < 0 || left > 4095 || right < 0 || right > 4095) {
            return BAD;
        }
        BigDecimal greatest = null;
        BigDecimal least = null;
        for (int l = 0; l < 12; l++) {
            for (int r = 0; r < 12; r++) {
                if ((left >> l & 1) == 1 && (right >> r & 1) == 1 && against(l, r) >= 0) {
                    pairLeft = l;
                    pairRight = r;
                    return NO;
                }
            }
        }
        for (int i = 0; i < 12; i++) {
            BigDecimal worth = worth(rows[i]);
            greatest = (left >> i & 1) == 0 ? greatest : greatest == null ? worth : greatest.max(worth);
            least = (right >> i & 1) == 0 ? least : least == null ? worth : least.min(worth);
        }
        return keep(s, rowOf(simplest(greatest, least)));
    }

    /** The whole nearest to 0, or else the first half, quarter .. that is between; a null is no limit. */
    private static BigDecimal simplest(BigDecimal low, BigDecimal high) {
        if ((low == null || low.signum() < 0) && (high == null || high.signum() > 0)) {
            return ZERO;
        }
        if (low == null || low.signum() < 0) {
            return simplest(high.negate(), low == null ? null : low.negate()).negate();
        }
        BigDecimal scale = ONE;
        while (true) {
            BigDecimal next = new BigDecimal(low.multiply(scale).toBigInteger().add(BigInteger.ONE));
            if (high == null || next.compareTo(high.multiply(scale)) < 0) {
                return next.divide(scale);
            }
            scale = scale.add(scale);
        }
    }

    int pair(int what) {
        return what == 0 ? pairLeft : what == 1 ? pairRight : BAD;
    }

    int born(int s, int day, int i) {
        if (!register(s) || day < 0 || day > 20 || i < 0 || i >= 1 << day) {
            return BAD;
        }
        String digits = Integer.toBinaryString(1 << day | i).substring(1);
        return keep(s, digits.replace('1', '+').replace('0', '-'));
    }

    int between(int s, int t, int day) {
        if (!register(s) || !register(t) || day < 0 || day > 20) {
            return BAD;
        }
        if (against(s, t) >= 0) {
            return NO;
        }
        BigDecimal low = worth(rows[s]);
        BigDecimal high = worth(rows[t]);
        int count = 0;
        for (int whole = -day; whole <= day; whole++) {
            BigDecimal here = new BigDecimal(whole);
            if (here.compareTo(low) > 0 && here.compareTo(high) < 0) {
                count++;
            }
            // Between this whole and the next one are all multiples of 2 to the -k whose day is not beyond.
            int k = day - Math.min(Math.abs(whole), Math.abs(whole + 1)) - 1;
            if (k >= 1 && whole < day) {
                count += multiples(low.max(here), high.min(here.add(ONE)), k);
            }
        }
        return count;
    }

    private static int multiples(BigDecimal low, BigDecimal high, int k) {
        BigDecimal scale = new BigDecimal(1 << k);
        BigInteger first = low.multiply(scale).setScale(0, RoundingMode.FLOOR).toBigInteger();
        BigInteger behind = high.multiply(scale).setScale(0, RoundingMode.CEILING).toBigInteger();
        return Math.max(0, behind.subtract(first).intValue() - 1);
    }

    // ---- stalks

    static boolean firstWins(String[] stalks, int who) {
        return firstWins(stalks, who, new TreeMap<>());
    }

    private static boolean firstWins(String[] stalks, int who, Map<String, Boolean> seen) {
        String key = who + String.join(",", stalks);
        Boolean known = seen.get(key);
        if (known != null) {
            return known;
        }
        char own = who == 0 ? '+' : '-';
        boolean wins = false;
        for (int i = 0; i < stalks.length && !wins; i++) {
            for (int n = 0; n < stalks[i].length() && !wins; n++) {
                if (stalks[i].charAt(n) == own) {
                    String[] behind = stalks.clone();
                    behind[i] = stalks[i].substring(0, n);
                    wins = !firstWins(behind, 1 - who, seen);
                }
            }
        }
        seen.put(key, wins);
        return wins;
    }

    int wins(int stalks, int who) {
        if (stalks < 0 || stalks > 4095 || who != 0 && who != 1) {
            return BAD;
        }
        List<String> chosen = new ArrayList<>();
        for (int s = 0; s < 12; s++) {
            if ((stalks >> s & 1) == 1) {
                chosen.add(rows[s]);
            }
        }
        if (chosen.size() > 4 || String.join("", chosen).length() > 14) {
            return NO;
        }
        return firstWins(chosen.toArray(new String[0]), who) ? 1 : 0;
    }

    // ---- sums

    private static TreeMap<Integer, BigDecimal> emptySum() {
        return new TreeMap<>(Collections.reverseOrder());
    }

    private static TreeMap<Integer, BigDecimal> copy(TreeMap<Integer, BigDecimal> sum) {
        TreeMap<Integer, BigDecimal> copied = emptySum();
        copied.putAll(sum);
        return copied;
    }

    private static boolean isSum(int z) {
        return 0 <= z && z <= 7;
    }

    private static boolean fits(int e, BigDecimal factor) {
        return Math.abs(e) <= 6 && leastK(factor) <= 20
            && new BigDecimal(above(factor)).abs().compareTo(MOST) <= 0;
    }

    /** False for HIGH. */
    private static boolean put(TreeMap<Integer, BigDecimal> sum, int e, BigDecimal factor) {
        BigDecimal together = sum.getOrDefault(e, ZERO).add(factor);
        if (!fits(e, together)) {
            return false;
        }
        if (together.signum() == 0) {
            sum.remove(e);
        } else {
            sum.put(e, together);
        }
        return true;
    }

    private static boolean putTimes(TreeMap<Integer, BigDecimal> sum, int e, BigDecimal f, Map<Integer, BigDecimal> y) {
        for (Map.Entry<Integer, BigDecimal> second : y.entrySet()) {
            BigDecimal product = f.multiply(second.getValue());
            if (!fits(e + second.getKey(), product) || !put(sum, e + second.getKey(), product)) {
                return false;
            }
        }
        return true;
    }

    int term(int z, int e, int a, int k) {
        if (!isSum(z) || e < -6 || e > 6 || Math.abs((long) a) > 1000000000L || k < 0 || k > 20) {
            return BAD;
        }
        sums.get(z).remove(e);
        if (a != 0) {
            sums.get(z).put(e, fraction(a, k));
        }
        return sums.get(z).size();
    }

    int told(int z, int i, int what) {
        if (!isSum(z) || i < 0 || what < 0 || what > 2) {
            return -1000000001;
        }
        if (i >= sums.get(z).size()) {
            return -1000000004;
        }
        int e = new ArrayList<>(sums.get(z).keySet()).get(i);
        BigDecimal factor = sums.get(z).get(e);
        return what == 0 ? e : what == 1 ? above(factor).intValueExact() : leastK(factor);
    }

    /** x and y, or x less y; null for HIGH. */
    private static TreeMap<Integer, BigDecimal> together(TreeMap<Integer, BigDecimal> x, Map<Integer, BigDecimal> y,
            boolean less) {
        TreeMap<Integer, BigDecimal> made = copy(x);
        for (Map.Entry<Integer, BigDecimal> second : y.entrySet()) {
            if (!put(made, second.getKey(), less ? second.getValue().negate() : second.getValue())) {
                return null;
            }
        }
        return made;
    }

    private static TreeMap<Integer, BigDecimal> product(Map<Integer, BigDecimal> x, Map<Integer, BigDecimal> y) {
        TreeMap<Integer, BigDecimal> made = emptySum();
        for (Map.Entry<Integer, BigDecimal> first : x.entrySet()) {
            if (!putTimes(made, first.getKey(), first.getValue(), y)) {
                return null;
            }
        }
        return made;
    }

    int sum(int z, int how, int x, int y) {
        if (!isSum(z) || how < 0 || how > 2 || !isSum(x) || !isSum(y)) {
            return BAD;
        }
        TreeMap<Integer, BigDecimal> made = how == 2 ? product(sums.get(x), sums.get(y))
            : together(sums.get(x), sums.get(y), how == 1);
        if (made == null) {
            return HIGH;
        }
        sums.set(z, made);
        return made.size();
    }

    int divide(int q, int r, int x, int y, int rounds) {
        if (!isSum(q) || !isSum(r) || q == r || !isSum(x) || !isSum(y) || rounds < 1 || rounds > 20) {
            return BAD;
        }
        Map.Entry<Integer, BigDecimal> lead = sums.get(y).firstEntry();
        if (lead == null || above(lead.getValue()).abs().bitCount() != 1) {
            return NO;
        }
        TreeMap<Integer, BigDecimal> quotient = emptySum();
        TreeMap<Integer, BigDecimal> rest = copy(sums.get(x));
        int done = 0;
        while (done < rounds && !rest.isEmpty() && rest.firstKey() - lead.getKey() >= -6) {
            int e = rest.firstKey() - lead.getKey();
            BigDecimal factor = rest.firstEntry().getValue().divide(lead.getValue());
            if (!put(quotient, e, factor) || !putTimes(rest, e, factor.negate(), sums.get(y))) {
                return HIGH;
            }
            done++;
        }
        sums.set(q, quotient);
        sums.set(r, rest);
        return done;
    }

    int order(int x, int y) {
        if (!isSum(x) || !isSum(y)) {
            return -9;
        }
        TreeMap<Integer, BigDecimal> made = together(sums.get(x), sums.get(y), true);
        return made == null ? HIGH : made.isEmpty() ? 0 : made.firstEntry().getValue().signum();
    }

    int take(int z, int s) {
        if (!isSum(z) || !register(s)) {
            return BAD;
        }
        TreeMap<Integer, BigDecimal> made = emptySum();
        if (!put(made, 0, worth(rows[s]))) {
            return HIGH;
        }
        sums.set(z, made);
        return made.size();
    }

    int near(int s, int z) {
        if (!register(s) || !isSum(z)) {
            return BAD;
        }
        if (!sums.get(z).isEmpty() && sums.get(z).firstKey() > 0) {
            return NO;
        }
        return keep(s, rowOf(sums.get(z).getOrDefault(0, ZERO)));
    }

    // ---- what Reading.all tells of the program

    String all() {
        StringBuilder text = new StringBuilder();
        for (int s = 0; s < 12; s++) {
            text.append(value(s, 0)).append("/2^").append(value(s, 1)).append(' ');
        }
        for (Map<Integer, BigDecimal> sum : sums) {
            text.append('[');
            for (Map.Entry<Integer, BigDecimal> term : sum.entrySet()) {
                text.append(' ').append(above(term.getValue())).append("/2^").append(leastK(term.getValue()));
                text.append("W^").append(term.getKey());
            }
            text.append(" ] ");
        }
        return text.append(pairLeft).append(' ').append(pairRight).toString();
    }
}
