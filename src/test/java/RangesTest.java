/**
 * BAD: a number is none that is told. For each argument of each call: the last number that is told is taken, the first
 * that is none is refused, on both sides, and so are the least and the greatest int; nothing changes then.
 */
public final class RangesTest {
    private static final int BAD = -1;
    private static final int BAD_VALUE = -1000000000;
    private static final int BAD_ORDER = -9;
    private static final int BAD_TOLD = -1000000001;
    private static final int MIN = Integer.MIN_VALUE;
    private static final int MAX = Integer.MAX_VALUE;
    private static final int MOST = 1000000000;
    private static final int[] REGISTER = {0, 11};
    private static final int[] HEAP = {0, 4095};
    private static final int[] SUM = {0, 7};
    private static final int[] TWO = {0, 1};
    private static final int[] DAY = {0, 20};

    private static final Check CHECK = new Check("RangesTest");
    private static final Refusals REFUSALS = new Refusals(CHECK);

    public static void main(String[] args) {
        rows();
        heaps();
        rowsOfEachLength();
        sums();
        notLookedAt();
        CHECK.end();
    }

    private static void rows() {
        call("row", BAD, new int[] {3, 24, 5}, REGISTER, new int[] {0, 24}, new int[] {0, (1 << 24) - 1});
        call("row", BAD, new int[] {3, 0, 0}, REGISTER, new int[] {0, 24}, new int[] {0, 0});
        call("number", BAD, new int[] {3, 3, 1}, REGISTER, new int[] {-MOST, MOST}, DAY);
        call("number", BAD, new int[] {3, 0, 0}, REGISTER, new int[] {-MOST, MOST}, DAY);
        call("at", BAD, new int[] {9, 3}, REGISTER, new int[] {-1, MAX});
        call("value", BAD_VALUE, new int[] {9, 0}, REGISTER, TWO);
        call("against", BAD_ORDER, new int[] {0, 1}, REGISTER, REGISTER);
        for (int how = 0; how < 3; how++) {
            call("work", BAD, new int[] {4, how, 0, 6}, REGISTER, new int[] {0, 3}, REGISTER, REGISTER);
        }
    }

    private static void heaps() {
        call("side", BAD, new int[] {4, 9, 0}, REGISTER, REGISTER, TWO);
        call("cut", BAD, new int[] {4, 1 << 1, 1 << 2}, REGISTER, HEAP, HEAP);
        call("cut", BAD, new int[] {4, 0, 0}, REGISTER, HEAP, HEAP);
        call("pair", BAD, new int[] {0}, TWO);
        call("between", BAD, new int[] {1, 2, 5}, REGISTER, REGISTER, DAY);
        call("wins", BAD, new int[] {1, 0}, HEAP, TWO);
    }

    /** Bit n of signs is one of the others; the i-th of a day that has 2 to the day is none. */
    private static void rowsOfEachLength() {
        for (int n = 0; n <= 24; n++) {
            call("row", BAD, new int[] {3, n, 0}, REGISTER, new int[] {0, 24}, new int[] {0, (1 << n) - 1});
        }
        for (int day = 0; day <= 20; day++) {
            call("born", BAD, new int[] {3, day, 0}, REGISTER, DAY, new int[] {0, (1 << day) - 1});
        }
    }

    private static void sums() {
        int[] exponent = {-6, 6};
        int[] above = {-MOST, MOST};
        call("term", BAD, new int[] {0, 2, 3, 1}, SUM, exponent, above, DAY);
        call("term", BAD, new int[] {0, 2, 0, 0}, SUM, exponent, above, DAY);
        call("told", BAD_TOLD, new int[] {6, 0, 0}, SUM, new int[] {0, MAX}, new int[] {0, 2});
        for (int how = 0; how < 3; how++) {
            call("sum", BAD, new int[] {5, how, 3, 4}, SUM, new int[] {0, 2}, SUM, SUM);
        }
        call("divide", BAD, new int[] {2, 3, 0, 7, 1}, SUM, SUM, SUM, SUM, new int[] {1, 20});
        call("order", BAD_ORDER, new int[] {0, 1}, SUM, SUM);
        call("take", BAD, new int[] {0, 0}, SUM, REGISTER);
        call("near", BAD, new int[] {0, 4}, REGISTER, SUM);
    }

    /** "t turned (3; u is not looked at)". */
    private static void notLookedAt() {
        for (int u : new int[] {MIN, -1, 0, 11, 12, MAX}) {
            CHECK.due("turned with u = " + u, Calls.on(Refusals.made(), "work", 4, 3, 9, u), 24);
        }
        call("work", BAD, new int[] {4, 3, 9, -1}, REGISTER, new int[] {3, 3}, REGISTER, new int[] {MIN, MAX});
    }

    /** The ends are those of each argument while the others stay as they are in the call that is given. */
    private static void call(String name, int bad, int[] given, int[]... ends) {
        for (int i = 0; i < ends.length; i++) {
            for (int end : ends[i]) {
                taken(name, bad, with(given, i, end));
            }
            for (int beyond : beyond(ends[i])) {
                REFUSALS.refused(Calls.text(name, with(given, i, beyond)), bad);
                for (int j = 0; j < i; j++) {
                    for (int also : beyond(ends[j])) {
                        REFUSALS.refused(Calls.text(name, with(with(given, i, beyond), j, also)), bad);
                    }
                }
            }
        }
    }

    private static void taken(String name, int bad, int[] arguments) {
        String call = Calls.text(name, arguments);
        int due = Calls.on(Refusals.madeModel(), call);
        CHECK.due(call, Calls.on(Refusals.made(), call), due);
        if (!mayBeBad(name, arguments)) {
            CHECK.due(call + " is not BAD", due == bad ? 1 : 0, 0);
        }
    }

    /** What is told of one argument may depend on another one. */
    private static boolean mayBeBad(String name, int[] arguments) {
        return (name.equals("row") || name.equals("born")) && arguments[2] >= 1 << arguments[1];
    }

    private static int[] with(int[] given, int place, int number) {
        int[] changed = given.clone();
        changed[place] = number;
        return changed;
    }

    /** An end that is the last int of all has none beyond. */
    private static int[] beyond(int[] ends) {
        if (ends[0] == MIN && ends[1] == MAX) {
            return new int[0];
        }
        if (ends[1] == MAX) {
            return new int[] {ends[0] - 1, MIN};
        }
        return new int[] {ends[0] - 1, ends[1] + 1, MIN, MAX};
    }
}
