/**
 * Each call with all its arguments at or beyond their ends at once, in every way: the answer and what is held behind it
 * must be the model's. So wherever several refusals meet, the first is answered.
 */
public final class GridTest {
    private static final int MIN = Integer.MIN_VALUE;
    private static final int MAX = Integer.MAX_VALUE;
    private static final int MOST = 1000000000;
    private static final int[] REGISTER = {MIN, -1, 0, 2, 3, 4, 5, 9, 10, 11, 12, MAX};
    private static final int[] HEAP = {MIN, -1, 0, 1 << 2, 1 << 3, 1 << 4, 1 << 1 | 1 << 11, 1 << 5 | 1 << 11, 0b111011010000,
        4095, 4096, 4097, MAX};
    private static final int[] SUM = {MIN, -1, 0, 1, 2, 3, 4, 5, 6, 7, 8, MAX};
    private static final int[] TWO = {MIN, -1, 0, 1, 2, MAX};
    private static final int[] THREE = {MIN, -1, 0, 1, 2, 3, MAX};
    private static final int[] FOUR = {MIN, -1, 0, 1, 2, 3, 4, MAX};
    private static final int[] DAY = {MIN, -1, 0, 1, 19, 20, 21, MAX};
    private static final int[] ABOVE = {MIN, -MOST - 1, -MOST, -25, -24, -1, 0, 1, 24, 25, 45, 47, MOST, MOST + 1, MAX};

    private static final Check CHECK = new Check("GridTest");

    public static void main(String[] args) {
        rows();
        sums();
        CHECK.end();
    }

    private static void rows() {
        grid("row", REGISTER, new int[] {MIN, -1, 0, 1, 23, 24, 25, 31, 32, MAX},
            new int[] {MIN, -1, 0, 1, 2, (1 << 23) - 1, 1 << 23, (1 << 24) - 1, 1 << 24, MAX});
        grid("number", REGISTER, ABOVE, DAY);
        grid("at", REGISTER, new int[] {MIN, -2, -1, 0, 1, 2, 22, 23, 24, 25, MAX});
        grid("value", REGISTER, TWO);
        grid("against", REGISTER, REGISTER);
        grid("work", REGISTER, FOUR, REGISTER, REGISTER);
        grid("side", REGISTER, REGISTER, TWO);
        grid("cut", REGISTER, HEAP, HEAP);
        grid("pair", TWO);
        grid("born", REGISTER, DAY, new int[] {MIN, -1, 0, 1, 2, (1 << 20) - 1, 1 << 20, MAX});
        grid("between", REGISTER, REGISTER, DAY);
        grid("wins", HEAP, TWO);
    }

    private static void sums() {
        grid("term", SUM, new int[] {MIN, -7, -6, 0, 6, 7, MAX}, ABOVE, DAY);
        grid("told", SUM, new int[] {MIN, -1, 0, 1, 2, 12, 13, MAX}, THREE);
        grid("sum", SUM, THREE, SUM, SUM);
        grid("divide", new int[] {MIN, -1, 0, 5, 6, 7, 8, MAX}, new int[] {MIN, -1, 0, 6, 7, 8, MAX}, SUM, SUM,
            new int[] {MIN, 0, 1, 20, 21, MAX});
        grid("order", SUM, SUM);
        grid("take", SUM, REGISTER);
        grid("near", REGISTER, SUM);
    }

    private static void grid(String name, int[]... choices) {
        int[] at = new int[choices.length];
        int[] arguments = new int[choices.length];
        boolean more = true;
        while (more) {
            for (int i = 0; i < at.length; i++) {
                arguments[i] = choices[i][at[i]];
            }
            compare(name, arguments);
            more = next(at, choices);
        }
    }

    private static boolean next(int[] at, int[][] choices) {
        for (int i = 0; i < at.length; i++) {
            at[i]++;
            if (at[i] < choices[i].length) {
                return true;
            }
            at[i] = 0;
        }
        return false;
    }

    private static void compare(String name, int[] arguments) {
        String call = Calls.text(name, arguments);
        BornNumbers x = Refusals.made();
        Model m = Refusals.madeModel();
        CHECK.due(call, Calls.on(x, name, arguments), Calls.on(m, name, arguments));
        CHECK.same("behind " + call, Reading.all(x), m.all());
    }
}
