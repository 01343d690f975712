/** A call that is BAD, NO, FAR or HIGH, and a call that only tells, changes nothing, but NO of cut() what pair() tells. */
public final class UnchangedTest {
    private static final Check CHECK = new Check("UnchangedTest");

    private interface Call {
        int on(BornNumbers x);
    }

    public static void main(String[] args) {
        bad();
        no();
        farAndHigh();
        telling();
        pairChanges();
        CHECK.end();
    }

    private static BornNumbers made() {
        BornNumbers x = new BornNumbers();
        x.number(0, 3, 2);
        x.number(1, -5, 0);
        x.number(2, 24, 0);
        x.row(3, 24, 1);
        x.term(0, 2, 1, 1);
        x.term(0, -1, 3, 0);
        x.term(1, 6, 1, 0);
        x.term(2, 0, 1000000000, 0);
        x.term(3, 0, 3, 0);
        x.term(4, -6, 1, 0);
        x.cut(5, 3, 3);
        return x;
    }

    private static void unchanged(String name, int answer, Call call) {
        BornNumbers x = made();
        String before = Reading.all(x);
        CHECK.due(name, call.on(x), answer);
        CHECK.same("behind " + name, Reading.all(x), before);
    }

    private static void bad() {
        unchanged("row(0, 2, 4)", -1, x -> x.row(0, 2, 4));
        unchanged("number(0, 1, 21)", -1, x -> x.number(0, 1, 21));
        unchanged("at(0, -2)", -1, x -> x.at(0, -2));
        unchanged("value(0, 2)", -1000000000, x -> x.value(0, 2));
        unchanged("against(0, 12)", -9, x -> x.against(0, 12));
        unchanged("work(0, 4, 1, 1)", -1, x -> x.work(0, 4, 1, 1));
        unchanged("work(0, 0, 1, 12)", -1, x -> x.work(0, 0, 1, 12));
        unchanged("side(1, 0, 2)", -1, x -> x.side(1, 0, 2));
        unchanged("cut(12, 4, 2)", -1, x -> x.cut(12, 4, 2));
        unchanged("cut(0, 4100, 2)", -1, x -> x.cut(0, 4100, 2));
        unchanged("pair(2)", -1, x -> x.pair(2));
        unchanged("born(0, 2, 4)", -1, x -> x.born(0, 2, 4));
        unchanged("between(1, 0, 21)", -1, x -> x.between(1, 0, 21));
        unchanged("wins(1, 2)", -1, x -> x.wins(1, 2));
        unchanged("term(0, 2, 0, 21)", -1, x -> x.term(0, 2, 0, 21));
        unchanged("told(0, -1, 0)", -1000000001, x -> x.told(0, -1, 0));
        unchanged("sum(0, 3, 1, 1)", -1, x -> x.sum(0, 3, 1, 1));
        unchanged("divide(0, 0, 3, 4, 1)", -1, x -> x.divide(0, 0, 3, 4, 1));
        unchanged("order(0, 8)", -9, x -> x.order(0, 8));
        unchanged("take(0, 12)", -1, x -> x.take(0, 12));
        unchanged("near(0, 8)", -1, x -> x.near(0, 8));
    }

    private static void no() {
        unchanged("side(0, 2, 1)", -2, x -> x.side(0, 2, 1));
        unchanged("between(0, 1, 5)", -2, x -> x.between(0, 1, 5));
        unchanged("wins(4, 0)", -2, x -> x.wins(4, 0));
        unchanged("divide(0, 1, 0, 7, 1)", -2, x -> x.divide(0, 1, 0, 7, 1));
        unchanged("divide(0, 1, 0, 3, 1)", -2, x -> x.divide(0, 1, 0, 3, 1));
        unchanged("near(0, 0)", -2, x -> x.near(0, 0));
    }

    private static void farAndHigh() {
        unchanged("number(0, 25, 0)", -3, x -> x.number(0, 25, 0));
        unchanged("work(0, 0, 2, 2)", -3, x -> x.work(0, 0, 2, 2));
        unchanged("work(0, 2, 3, 3)", -3, x -> x.work(0, 2, 3, 3));
        unchanged("cut(0, 4, 0)", -3, x -> x.cut(0, 4, 0));
        unchanged("near(0, 2)", -3, x -> x.near(0, 2));
        unchanged("sum(0, 0, 2, 2)", -5, x -> x.sum(0, 0, 2, 2));
        unchanged("sum(2, 0, 2, 2)", -5, x -> x.sum(2, 0, 2, 2));
        unchanged("sum(1, 2, 0, 1)", -5, x -> x.sum(1, 2, 0, 1));
        unchanged("divide(0, 2, 1, 4, 1)", -5, x -> x.divide(0, 2, 1, 4, 1));
        unchanged("take(0, 3)", -5, x -> x.take(0, 3));
    }

    private static void telling() {
        unchanged("at(0, 5)", -4, x -> x.at(0, 5));
        unchanged("told(0, 2, 0)", -1000000004, x -> x.told(0, 2, 0));
        unchanged("between(1, 0, 5)", 42, x -> x.between(1, 0, 5));
        unchanged("wins(3, 1)", 1, x -> x.wins(3, 1));
        unchanged("order(0, 3)", 1, x -> x.order(0, 3));
    }

    private static void pairChanges() {
        BornNumbers x = made();
        String before = Reading.all(x);
        CHECK.due("cut(0, 4, 10)", x.cut(0, 4, 10), -2);
        CHECK.due("pair(0)", x.pair(0), 2);
        CHECK.due("pair(1)", x.pair(1), 1);
        CHECK.due("cut(0, 3, 3)", x.cut(0, 3, 3), -2);
        CHECK.same("behind cut(0, 3, 3)", Reading.all(x), before);
    }
}
