/**
 * An object with something in every place, and calls on it that are refused: each must answer what the document says,
 * and leave every sign of every row, every term of every sum and what pair() tells as they were.
 */
final class Refusals {
    /** Register 4 stays empty and sum 5 stays 0; sum 6 has all its terms; 2, 3, 5 and 9 have 24 signs. */
    private static final String[] MAKING = {
        "number(0, 3, 2)", "number(1, -5, 0)", "number(2, 24, 0)", "row(3, 24, 1)", "number(5, -24, 0)",
        "number(6, 1, 1)", "number(7, 2, 0)", "number(8, -1, 3)", "number(9, 45, 1)", "number(10, 1, 0)",
        "number(11, -3, 1)",
        "term(0, 2, 1, 1)", "term(0, -1, 3, 0)", "term(1, 6, 1, 0)", "term(2, 0, 1000000000, 0)", "term(3, 0, 3, 0)",
        "term(4, -6, 1, 0)",
        "term(6, -6, 1, 0)", "term(6, -5, 1, 0)", "term(6, -4, 1, 0)", "term(6, -3, 1, 0)", "term(6, -2, 1, 0)",
        "term(6, -1, 1, 0)", "term(6, 0, 1, 0)", "term(6, 1, 1, 0)", "term(6, 2, 1, 0)", "term(6, 3, 1, 0)",
        "term(6, 4, 1, 0)", "term(6, 5, 1, 0)", "term(6, 6, 1, 0)",
        "term(7, 1, -1, 1)", "term(7, 0, 25, 0)",
        "cut(0, 1<<7|1<<10, 1<<6|1<<10)"};

    private final Check check;
    private final String before = whole("pair(0)");

    Refusals(Check check) {
        this.check = check;
    }

    static BornNumbers made() {
        BornNumbers x = new BornNumbers();
        make(x);
        return x;
    }

    static Model madeModel() {
        Model m = new Model();
        make(m);
        return m;
    }

    private static void make(Object target) {
        for (String call : MAKING) {
            Calls.on(target, call);
        }
    }

    void refused(String call, int answer) {
        check.due(call, Calls.on(made(), call), answer);
        check.same("behind " + call, whole(call), before);
    }

    /** What all places hold behind a call; rows and sums are read from two objects, so that none has 512 calls. */
    static String whole(String call) {
        StringBuilder text = new StringBuilder();
        BornNumbers x = made();
        Calls.on(x, call);
        for (int s = 0; s < 12; s++) {
            text.append(Reading.row(x, s)).append(' ');
        }
        BornNumbers y = made();
        Calls.on(y, call);
        return text.append(Reading.all(y)).toString();
    }
}
