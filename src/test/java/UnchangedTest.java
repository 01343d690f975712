/**
 * "Nothing changes then (but pair(), by NO of cut())": behind each call that is NO, FAR or HIGH, and behind each that only
 * tells, all is as it was. (Behind what is BAD: RangesTest and MeetingsTest.)
 */
public final class UnchangedTest {
    private static final int NO = -2;
    private static final int FAR = -3;
    private static final int NONE = -4;
    private static final int HIGH = -5;
    private static final int NONE_TOLD = -1000000004;
    private static final Check CHECK = new Check("UnchangedTest");
    private static final Refusals REFUSALS = new Refusals(CHECK);

    public static void main(String[] args) {
        no();
        far();
        high();
        telling();
        pairChanges();
        CHECK.end();
    }

    private static void all(int answer, String... calls) {
        for (String call : calls) {
            REFUSALS.refused(call, answer);
        }
    }

    private static void no() {
        all(NO, "side(0, 2, 1)", "side(2, 2, 1)", "side(0, 5, 0)", "side(0, 4, 0)", "side(0, 4, 1)");
        all(NO, "between(0, 1, 5)", "between(0, 0, 5)", "wins(1<<2, 0)", "wins(1<<4|1<<6|1<<7|1<<8|1<<10, 1)");
        all(NO, "divide(0, 1, 0, 5, 1)", "divide(0, 1, 0, 3, 1)", "divide(0, 1, 0, 2, 20)", "divide(5, 3, 0, 5, 1)",
            "divide(3, 0, 0, 3, 1)");
        all(NO, "near(0, 0)", "near(0, 1)", "near(0, 6)", "near(0, 7)");
        // This one is the cut behind which pair() already tells what it tells.
        all(NO, "cut(0, 1<<7|1<<10, 1<<6|1<<10)");
    }

    private static void far() {
        all(FAR, "number(0, 25, 0)", "number(2, -25, 0)", "number(0, 1000000000, 0)", "number(0, 4194305, 20)");
        all(FAR, "work(0, 0, 2, 2)", "work(2, 0, 2, 10)", "work(0, 1, 5, 10)", "work(0, 0, 3, 10)", "work(0, 2, 3, 3)",
            "work(3, 2, 3, 6)", "work(0, 2, 2, 7)");
        all(FAR, "cut(0, 1<<2, 0)", "cut(2, 1<<2, 0)", "cut(0, 0, 1<<5)", "cut(0, 1<<4, 1<<3)");
        all(FAR, "near(0, 2)");
    }

    private static void high() {
        all(HIGH, "sum(0, 0, 2, 2)", "sum(2, 0, 2, 2)", "sum(2, 2, 2, 2)", "sum(1, 2, 0, 1)", "sum(4, 2, 4, 4)",
            "sum(6, 2, 6, 6)", "sum(6, 2, 6, 7)", "sum(6, 0, 6, 2)", "sum(2, 0, 2, 6)");
        all(HIGH, "divide(0, 2, 1, 4, 1)", "divide(1, 4, 1, 4, 1)", "divide(4, 1, 1, 4, 20)", "divide(6, 7, 6, 7, 20)",
            "divide(7, 6, 6, 7, 20)");
        all(HIGH, "take(0, 3)", "take(6, 3)");
    }

    private static void telling() {
        all(NONE, "at(0, 3)", "at(2, 24)", "at(4, 0)", "at(0, MAX)");
        all(NONE_TOLD, "told(0, 2, 0)", "told(5, 0, 1)", "told(6, 13, 2)", "told(6, MAX, 2)");
        all(24, "at(2, -1)", "value(2, 0)");
        all(23, "value(3, 1)");
        all(-1, "against(1, 0)");
        all(42, "between(1, 0, 5)");
        all(1, "wins(1<<0|1<<1, 1)", "order(0, 3)");
        all(7, "pair(0)");
        all(-6, "told(6, 12, 0)");
    }

    private static void pairChanges() {
        String before = Refusals.whole("pair(0)");
        String behind = Refusals.whole("cut(0, 1<<2, 1<<1|1<<3)");
        CHECK.same("pair() tells the former pair", before.substring(before.lastIndexOf(']') + 1), " 7 6");
        CHECK.same("by NO of cut() pair() alone changes", behind, before.replaceAll(" 7 6$", " 2 1"));
    }
}
