/** "Of several the first": where a call would be refused for more than one cause, BAD goes ahead of NO, NO of FAR and HIGH. */
public final class MeetingsTest {
    private static final int BAD = -1;
    private static final int NO = -2;
    private static final int BAD_TOLD = -1000000001;
    private static final Check CHECK = new Check("MeetingsTest");
    private static final Refusals REFUSALS = new Refusals(CHECK);
    private static final Script SCRIPT = new Script(CHECK);

    public static void main(String[] args) {
        badAndFar();
        badAndNo();
        badAndNone();
        badAndHigh();
        noAndFar();
        noAndHigh();
        noAlsoWithoutThem();
        CHECK.end();
    }

    private static void all(int answer, String... calls) {
        for (String call : calls) {
            REFUSALS.refused(call, answer);
        }
    }

    private static void badAndFar() {
        all(BAD, "number(12, 25, 0)", "number(-1, -25, 0)", "number(0, 1000000001, 0)", "number(0, -1000000001, 20)",
            "number(0, 25, 21)", "number(0, 25, -1)", "number(0, MAX, MAX)");
        all(BAD, "work(12, 0, 2, 2)", "work(-1, 1, 2, 5)", "work(12, 2, 3, 3)", "work(0, 0, 2, 12)", "work(0, 1, 12, 2)");
        all(BAD, "cut(12, 1<<2, 0)", "cut(-1, 0, 1<<5)", "cut(0, 1<<2|1<<12, 0)", "cut(0, 1<<2, 1<<12)");
        all(BAD, "near(12, 2)", "near(-1, 2)");
    }

    private static void badAndNo() {
        all(BAD, "side(12, 4, 0)", "side(-1, 4, 1)", "side(0, 4, 2)", "side(0, 2, 2)", "side(0, 5, -1)");
        all(BAD, "cut(12, 1<<2, 1<<2)", "cut(-1, 1<<2, 1<<5)", "cut(0, 1<<2|1<<12, 1<<2)", "cut(0, 1<<2, 1<<2|1<<12)",
            "cut(0, -1, -1)");
        all(BAD, "between(2, 1, 21)", "between(2, 2, -1)", "between(2, 2, MIN)", "between(2, 1, MAX)");
        all(BAD, "wins(4095, 2)", "wins(4095, -1)", "wins(8191, 0)", "wins(-1, 0)", "wins(1<<2, 2)", "wins(1<<12|1<<2, 1)");
        all(BAD, "divide(2, 2, 0, 5, 1)", "divide(2, 3, 0, 5, 0)", "divide(2, 3, 0, 5, 21)", "divide(2, 3, 8, 5, 1)",
            "divide(8, 3, 0, 5, 1)", "divide(2, 8, 0, 5, 1)", "divide(2, 2, 0, 3, 1)", "divide(2, 3, -1, 3, 1)",
            "divide(2, 3, 0, 3, 0)", "divide(2, 3, 0, 2, 21)");
        all(BAD, "near(12, 1)", "near(-1, 0)", "near(12, 7)");
    }

    private static void badAndNone() {
        all(BAD, "at(12, 24)", "at(-1, 0)", "at(12, MAX)");
        all(BAD_TOLD, "told(8, 13, 0)", "told(-1, 0, 0)", "told(6, 13, 3)", "told(5, 0, -1)", "told(5, MAX, 3)");
        all(BAD_TOLD, "told(5, -1, 0)", "told(5, MIN, 2)");
        SCRIPT.run("pair() of a number that is none, where there is nothing to tell", """
            pair(2) = -1
            pair(-1) = -1
            pair(0) = -4
            pair(1) = -4
            """);
    }

    private static void badAndHigh() {
        all(BAD, "sum(8, 2, 1, 1)", "sum(-1, 0, 2, 2)", "sum(8, 1, 2, 2)", "sum(5, 3, 2, 2)", "sum(5, 2, 1, 8)",
            "sum(5, 2, -1, 1)");
        all(BAD, "divide(2, 2, 1, 4, 1)", "divide(2, 3, 1, 4, 0)", "divide(2, 3, 1, 4, 21)", "divide(8, 3, 1, 4, 1)",
            "divide(2, -1, 1, 4, 1)");
        all(BAD, "take(8, 3)", "take(-1, 3)");
    }

    private static void noAndFar() {
        all(NO, "near(0, 7)", "near(11, 7)");
        SCRIPT.run("a cut that has a pair, and nothing of 24 signs between", """
            number(0, 24, 0) = 24
            number(1, -24, 0) = 24
            cut(5, 1<<0, 1<<0) = -2
            pairs() = 0 0
            cut(5, 1<<0|1<<2, 1<<2) = -2
            pairs() = 0 2
            cut(5, 1<<2, 1<<1) = -2
            pairs() = 2 1
            cut(5, 1<<1, 1<<1) = -2
            pairs() = 1 1
            signs(5) =
            """);
    }

    private static void noAndHigh() {
        SCRIPT.run("a greatest term that can't divide, and a quotient that would be beyond", """
            term(0, 6, 1, 0) = 1
            term(1, -6, 3, 0) = 1
            term(2, 5, 7, 0) = 1
            divide(2, 3, 0, 1, 1) = -2
            terms(2) = [ 7/2^0W^5 ]
            terms(3) = [ ]
            term(1, -6, 4, 0) = 1
            divide(2, 3, 0, 1, 1) = -5
            """);
    }

    /** There is nothing to do, and it is refused all the same. */
    private static void noAlsoWithoutThem() {
        all(NO, "divide(2, 3, 5, 5, 1)", "divide(2, 3, 5, 3, 1)", "divide(2, 3, 4, 2, 1)");
        all(NO, "side(4, 4, 0)", "side(4, 4, 1)", "between(4, 4, 0)");
    }
}
