import java.util.Random;

/** Long runs of calls of all kinds, answered by the program and by the model of the document, which must agree. */
public final class ModelTest {
    private static final int RUNS = 3000;
    private static final int CALLS = 60;
    private static final int[] EDGES = {-2147483648, -1000000001, -1000000000, -999999999, -25, -7, -1, 0, 1, 2, 20, 21,
        24, 25, 4096, 536870912, 999999999, 1000000000, 1000000001, 2147483647};
    private static final Check CHECK = new Check("ModelTest");

    private final Random random;
    private final BornNumbers x = new BornNumbers();
    private final Model m = new Model();
    private final StringBuilder told = new StringBuilder();
    private final int reach;
    private final int size;

    private ModelTest(int seed) {
        random = new Random(seed);
        // Some runs keep to few places, so that what one call makes is what the next one uses.
        reach = 2 + seed % 5 * 2;
        size = 1 + seed % 29;
    }

    public static void main(String[] args) {
        for (int seed = 0; seed < RUNS; seed++) {
            new ModelTest(seed).run(seed);
        }
        CHECK.end();
    }

    private void run(int seed) {
        if (seed % 4 != 0) {
            fill();
        }
        for (int i = 0; i < CALLS; i++) {
            call();
        }
        CHECK.same("run " + seed + told, Reading.all(x), m.all());
    }

    /** Rows near to one another, and sums that can divide, which calls by chance alone seldom make. */
    private void fill() {
        int likeness = below(1 << 24);
        for (int s = 0; s < 12; s++) {
            int n = below(3) == 0 ? 24 - below(3) : below(10);
            int signs = (likeness ^ (below(2) == 0 ? 0 : below(4) << 20)) & (1 << n) - 1;
            due("row(" + s + "," + n + "," + signs + ")", x.row(s, n, signs), m.row(s, n, signs));
        }
        for (int z = 0; z < 8; z++) {
            int lead = below(5) - 1;
            int a = below(2) == 0 ? 1 << below(4) : -1;
            int k = below(3);
            due("term(" + z + "," + lead + "," + a + "," + k + ")", x.term(z, lead, a, k), m.term(z, lead, a, k));
            for (int i = below(3); i > 0; i--) {
                int e = lead - 1 - below(3);
                int b = below(6) == 0 ? 900000000 + below(100000000) : below(2 * size + 1) - size;
                due("term(" + z + "," + e + "," + b + "," + k + ")", x.term(z, e, b, k), m.term(z, e, b, k));
            }
        }
    }

    private int below(int bound) {
        return random.nextInt(bound);
    }

    private int edgeOr(int usual) {
        return below(60) == 0 ? EDGES[below(EDGES.length)] : usual;
    }

    private int register() {
        return edgeOr(below(60) == 0 ? below(15) - 1 : below(Math.min(12, reach + 2)));
    }

    private int sum() {
        return edgeOr(below(60) == 0 ? below(11) - 1 : below(Math.min(8, reach)));
    }

    private int choice(int count) {
        return edgeOr(below(60) == 0 ? below(count + 2) - 1 : below(count));
    }

    private int heap() {
        int bits = 0;
        for (int i = below(4); i > 0; i--) {
            bits |= 1 << below(12);
        }
        return edgeOr(bits);
    }

    private int above() {
        return edgeOr(below(2 * size + 1) - size << (below(5) == 0 ? below(26) : 0));
    }

    private int power() {
        return edgeOr(below(3) == 0 ? below(21) : below(4));
    }

    private int day() {
        return edgeOr(below(21));
    }

    private void due(String call, int got, int want) {
        told.append(' ').append(call).append('=').append(want);
        CHECK.due(call, got, want);
    }

    private void call() {
        if (below(2) == 0) {
            makeRow();
        } else {
            makeSum();
        }
    }

    private void makeRow() {
        int s = register();
        int t = register();
        int u = register();
        switch (below(13)) {
            case 0: {
                int n = edgeOr(below(25));
                int signs = edgeOr(below(1 << Math.max(0, Math.min(n, 24))));
                due("row(" + s + "," + n + "," + signs + ")", x.row(s, n, signs), m.row(s, n, signs));
                break;
            }
            case 1: case 2: {
                int a = above();
                int k = power();
                due("number(" + s + "," + a + "," + k + ")", x.number(s, a, k), m.number(s, a, k));
                break;
            }
            case 3: {
                int i = edgeOr(below(26) - 1);
                due("at(" + s + "," + i + ")", x.at(s, i), m.at(s, i));
                break;
            }
            case 4: {
                int what = choice(2);
                due("value(" + s + "," + what + ")", x.value(s, what), m.value(s, what));
                due("against(" + s + "," + t + ")", x.against(s, t), m.against(s, t));
                break;
            }
            case 5: case 6: {
                int how = choice(4);
                due("work(" + s + "," + how + "," + t + "," + u + ")", x.work(s, how, t, u), m.work(s, how, t, u));
                break;
            }
            case 7: {
                int side = choice(2);
                due("side(" + s + "," + t + "," + side + ")", x.side(s, t, side), m.side(s, t, side));
                break;
            }
            case 8: case 9: {
                int l = heap();
                int r = heap();
                due("cut(" + s + "," + l + "," + r + ")", x.cut(s, l, r), m.cut(s, l, r));
                int what = choice(2);
                due("pair(" + what + ")", x.pair(what), m.pair(what));
                break;
            }
            case 10: {
                int day = day();
                int i = edgeOr(below(1 << Math.max(0, Math.min(day, 20))));
                due("born(" + s + "," + day + "," + i + ")", x.born(s, day, i), m.born(s, day, i));
                break;
            }
            case 11: {
                int day = day();
                due("between(" + s + "," + t + "," + day + ")", x.between(s, t, day), m.between(s, t, day));
                break;
            }
            default: {
                int stalks = heap();
                int who = choice(2);
                due("wins(" + stalks + "," + who + ")", x.wins(stalks, who), m.wins(stalks, who));
                break;
            }
        }
    }

    private void makeSum() {
        int z = sum();
        int p = sum();
        int q = sum();
        int s = register();
        switch (below(10)) {
            case 0: case 1: case 2: {
                int e = edgeOr(below(4) == 0 ? below(15) - 7 : below(5) - 2);
                int a = above();
                int k = power();
                due("term(" + z + "," + e + "," + a + "," + k + ")", x.term(z, e, a, k), m.term(z, e, a, k));
                break;
            }
            case 3: {
                int i = edgeOr(below(5));
                int what = choice(3);
                due("told(" + z + "," + i + "," + what + ")", x.told(z, i, what), m.told(z, i, what));
                break;
            }
            case 4: case 5: {
                int how = choice(3);
                due("sum(" + z + "," + how + "," + p + "," + q + ")", x.sum(z, how, p, q), m.sum(z, how, p, q));
                break;
            }
            case 6: case 7: {
                int r = sum();
                int rounds = edgeOr(below(21) + below(2));
                due("divide(" + z + "," + r + "," + p + "," + q + "," + rounds + ")", x.divide(z, r, p, q, rounds),
                    m.divide(z, r, p, q, rounds));
                break;
            }
            case 8: {
                due("order(" + p + "," + q + ")", x.order(p, q), m.order(p, q));
                break;
            }
            default: {
                if (below(2) == 0) {
                    due("take(" + z + "," + s + ")", x.take(z, s), m.take(z, s));
                } else {
                    due("near(" + s + "," + z + ")", x.near(s, z), m.near(s, z));
                }
                break;
            }
        }
    }
}
