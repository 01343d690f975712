/** Promises 2 to 7: row, number, at, value, against, work. */
public final class RowsTest {
    private static final int FAR = -3;
    private static final int BAD_VALUE = -1000000000;
    private static final Check CHECK = new Check("RowsTest");

    public static void main(String[] args) {
        row();
        number();
        at();
        value();
        against();
        workOrdinary();
        workEdges();
        CHECK.end();
    }

    private static void row() {
        BornNumbers x = new BornNumbers();
        CHECK.due("row(11, 5, 13)", x.row(11, 5, 13), 5);
        CHECK.same("its signs", Reading.row(x, 11), "+-++-");
        CHECK.due("row(11, 0, 0)", x.row(11, 0, 0), 0);
        CHECK.same("its signs", Reading.row(x, 11), "");
        CHECK.due("row(0, 24, 16777215)", x.row(0, 24, 16777215), 24);
        CHECK.same("its value", Reading.value(x, 0), "24/2^0");
        CHECK.due("row(0, 24, 16777216)", x.row(0, 24, 16777216), -1);
        CHECK.due("row(0, 24, -1)", x.row(0, 24, -1), -1);
        CHECK.due("row(0, 25, 0)", x.row(0, 25, 0), -1);
        CHECK.due("row(0, 32, 0)", x.row(0, 32, 0), -1);
        CHECK.due("row(0, -1, 0)", x.row(0, -1, 0), -1);
        CHECK.due("row(0, 0, 1)", x.row(0, 0, 1), -1);
        CHECK.due("row(0, 3, 8)", x.row(0, 3, 8), -1);
        CHECK.due("row(-1, 3, 1)", x.row(-1, 3, 1), -1);
        CHECK.due("row(12, 3, 1)", x.row(12, 3, 1), -1);
        CHECK.same("what it was", Reading.value(x, 0), "24/2^0");
    }

    private static void number() {
        BornNumbers x = new BornNumbers();
        makes(x, 0, 0, "");
        makes(x, 0, 20, "");
        makes(x, 1, 0, "+");
        makes(x, -1, 0, "-");
        makes(x, 1, 1, "+-");
        makes(x, 3, 1, "++-");
        makes(x, -3, 1, "--+");
        makes(x, 3, 2, "+-+");
        makes(x, 1, 2, "+--");
        makes(x, 5, 3, "+-+-");
        makes(x, -21, 3, "---+-+");
        makes(x, 4, 2, "+");
        makes(x, 12, 4, "+-+");
        makes(x, 24, 0, "++++++++++++++++++++++++");
        makes(x, -24, 0, "------------------------");
        makes(x, 25165824, 20, "++++++++++++++++++++++++");
        CHECK.due("number(0, 25, 0)", x.number(0, 25, 0), FAR);
        CHECK.due("number(0, -25, 0)", x.number(0, -25, 0), FAR);
        CHECK.due("number(0, 45, 1)", x.number(0, 45, 1), 24);
        CHECK.due("number(0, 47, 1)", x.number(0, 47, 1), FAR);
        CHECK.due("number(0, 4194303, 20)", x.number(0, 4194303, 20), 24);
        CHECK.due("number(0, 4194305, 20)", x.number(0, 4194305, 20), FAR);
        CHECK.due("number(0, 1000000000, 0)", x.number(0, 1000000000, 0), FAR);
        CHECK.due("number(0, -1000000000, 20)", x.number(0, -1000000000, 20), FAR);
        CHECK.same("what it was", Reading.value(x, 0), "4194303/2^20");
        CHECK.due("number(0, 1000000001, 0)", x.number(0, 1000000001, 0), -1);
        CHECK.due("number(0, -1000000001, 0)", x.number(0, -1000000001, 0), -1);
        CHECK.due("number(0, -2147483648, 0)", x.number(0, Integer.MIN_VALUE, 0), -1);
        CHECK.due("number(0, 1, -1)", x.number(0, 1, -1), -1);
        CHECK.due("number(0, 1, 21)", x.number(0, 1, 21), -1);
        CHECK.due("number(12, 1, 0)", x.number(12, 1, 0), -1);
        CHECK.due("number(-1, 1, 0)", x.number(-1, 1, 0), -1);
    }

    private static void makes(BornNumbers x, int a, int k, String signs) {
        CHECK.due("number(0, " + a + ", " + k + ")", x.number(0, a, k), signs.length());
        CHECK.same("signs of " + a + "/2^" + k, Reading.row(x, 0), signs);
    }

    private static void at() {
        BornNumbers x = new BornNumbers();
        x.row(2, 3, 2);
        CHECK.due("at(2, -1)", x.at(2, -1), 3);
        CHECK.due("at(2, 0)", x.at(2, 0), 0);
        CHECK.due("at(2, 1)", x.at(2, 1), 1);
        CHECK.due("at(2, 2)", x.at(2, 2), 0);
        CHECK.due("at(2, 3)", x.at(2, 3), -4);
        CHECK.due("at(2, 24)", x.at(2, 24), -4);
        CHECK.due("at(2, 2147483647)", x.at(2, Integer.MAX_VALUE), -4);
        CHECK.due("at(2, -2)", x.at(2, -2), -1);
        CHECK.due("at(2, -2147483648)", x.at(2, Integer.MIN_VALUE), -1);
        CHECK.due("at(-1, 0)", x.at(-1, 0), -1);
        CHECK.due("at(12, -1)", x.at(12, -1), -1);
        x.row(2, 24, 8388608);
        CHECK.due("at(2, 23)", x.at(2, 23), 1);
        CHECK.due("at(2, 22)", x.at(2, 22), 0);
    }

    private static void value() {
        BornNumbers x = new BornNumbers();
        worth(x, 0, 0, "0/2^0");
        worth(x, 1, 0, "-1/2^0");
        worth(x, 3, 7, "3/2^0");
        worth(x, 4, 11, "7/2^2");
        worth(x, 4, 4, "-7/2^2");
        worth(x, 3, 1, "1/2^2");
        worth(x, 4, 13, "7/2^3");
        worth(x, 24, 1, "1/2^23");
        worth(x, 24, 16777214, "-1/2^23");
        worth(x, 24, 16777213, "8388607/2^23");
        worth(x, 24, 8388607, "45/2^1");
        CHECK.due("value(0, 2)", x.value(0, 2), BAD_VALUE);
        CHECK.due("value(0, -1)", x.value(0, -1), BAD_VALUE);
        CHECK.due("value(12, 0)", x.value(12, 0), BAD_VALUE);
        CHECK.due("value(-1, 1)", x.value(-1, 1), BAD_VALUE);
    }

    private static void worth(BornNumbers x, int n, int signs, String want) {
        x.row(0, n, signs);
        CHECK.same("value of " + Reading.row(x, 0), Reading.value(x, 0), want);
    }

    private static void against() {
        BornNumbers x = new BornNumbers();
        x.number(0, 1, 1);
        x.number(1, 3, 2);
        x.number(2, -24, 0);
        x.row(3, 24, 1);
        x.row(4, 2, 1);
        CHECK.due("against(0, 1)", x.against(0, 1), -1);
        CHECK.due("against(1, 0)", x.against(1, 0), 1);
        CHECK.due("against(0, 4)", x.against(0, 4), 0);
        CHECK.due("against(2, 3)", x.against(2, 3), -1);
        CHECK.due("against(3, 5)", x.against(3, 5), 1);
        CHECK.due("against(5, 3)", x.against(5, 3), -1);
        CHECK.due("against(11, 10)", x.against(11, 10), 0);
        CHECK.due("against(12, 0)", x.against(12, 0), -9);
        CHECK.due("against(0, 12)", x.against(0, 12), -9);
        CHECK.due("against(-1, 0)", x.against(-1, 0), -9);
        CHECK.due("against(0, -1)", x.against(0, -1), -9);
    }

    private static void workOrdinary() {
        BornNumbers x = new BornNumbers();
        x.number(0, 7, 2);
        x.number(1, -3, 3);
        CHECK.due("work(2, 0, 0, 1)", x.work(2, 0, 0, 1), 5);
        CHECK.same("7/4 and -3/8", Reading.value(x, 2), "11/2^3");
        CHECK.due("work(2, 1, 0, 1)", x.work(2, 1, 0, 1), 6);
        CHECK.same("7/4 less -3/8", Reading.value(x, 2), "17/2^3");
        CHECK.due("work(2, 1, 1, 0)", x.work(2, 1, 1, 0), 6);
        CHECK.same("-3/8 less 7/4", Reading.value(x, 2), "-17/2^3");
        CHECK.due("work(2, 2, 0, 1)", x.work(2, 2, 0, 1), 6);
        CHECK.same("7/4 times -3/8", Reading.value(x, 2), "-21/2^5");
        CHECK.due("work(2, 3, 0, 99)", x.work(2, 3, 0, 99), 4);
        CHECK.same("7/4 turned", Reading.row(x, 2), "--+-");
        CHECK.due("work(2, 3, 0, -99)", x.work(2, 3, 0, -99), 4);
        CHECK.due("work(0, 0, 0, 0)", x.work(0, 0, 0, 0), 5);
        CHECK.same("7/4 twice", Reading.value(x, 0), "7/2^1");
        CHECK.due("work(0, 1, 0, 0)", x.work(0, 1, 0, 0), 0);
        CHECK.due("work(0, 3, 0, 0)", x.work(0, 3, 0, 0), 0);
    }

    private static void workEdges() {
        BornNumbers x = new BornNumbers();
        x.number(0, 24, 0);
        x.number(1, 1, 0);
        x.row(2, 24, 1);
        x.number(3, 1, 12);
        x.number(4, 1, 11);
        x.number(6, 5, 0);
        CHECK.due("work(5, 0, 0, 1)", x.work(5, 0, 0, 1), FAR);
        CHECK.due("work(5, 2, 0, 0)", x.work(5, 2, 0, 0), FAR);
        CHECK.due("work(5, 2, 2, 2)", x.work(5, 2, 2, 2), FAR);
        CHECK.due("work(5, 0, 1, 2)", x.work(5, 0, 1, 2), FAR);
        CHECK.due("work(5, 2, 3, 3)", x.work(5, 2, 3, 3), FAR);
        CHECK.due("work(5, 2, 6, 6)", x.work(5, 2, 6, 6), FAR);
        CHECK.same("what it was", Reading.value(x, 5), "0/2^0");
        CHECK.due("work(5, 2, 3, 4)", x.work(5, 2, 3, 4), 24);
        CHECK.same("2^-12 times 2^-11", Reading.value(x, 5), "1/2^23");
        CHECK.due("work(5, 1, 1, 2)", x.work(5, 1, 1, 2), 24);
        CHECK.due("work(5, 3, 2, 0)", x.work(5, 3, 2, 0), 24);
        CHECK.same("turned", Reading.value(x, 5), "-1/2^23");
        CHECK.due("work(12, 0, 0, 0)", x.work(12, 0, 0, 0), -1);
        CHECK.due("work(-1, 0, 0, 0)", x.work(-1, 0, 0, 0), -1);
        CHECK.due("work(0, 4, 0, 0)", x.work(0, 4, 0, 0), -1);
        CHECK.due("work(0, -1, 0, 0)", x.work(0, -1, 0, 0), -1);
        CHECK.due("work(0, 0, 12, 0)", x.work(0, 0, 12, 0), -1);
        CHECK.due("work(0, 3, 12, 0)", x.work(0, 3, 12, 0), -1);
        CHECK.due("work(0, 0, 0, 12)", x.work(0, 0, 0, 12), -1);
        CHECK.due("work(0, 2, 0, -1)", x.work(0, 2, 0, -1), -1);
    }
}
