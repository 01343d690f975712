/** Promises 8 to 12: side, cut, pair, born, between. */
public final class HeapsTest {
    private static final int BAD = -1;
    private static final int NO = -2;
    private static final int FAR = -3;
    private static final int NONE = -4;
    private static final Check CHECK = new Check("HeapsTest");

    public static void main(String[] args) {
        side();
        cutOrdinary();
        cutFar();
        cutWrong();
        pair();
        born();
        between();
        CHECK.end();
    }

    private static void side() {
        BornNumbers x = new BornNumbers();
        x.row(0, 6, 0b011001);
        CHECK.due("side(1, 0, 0)", x.side(1, 0, 0), 4);
        CHECK.same("the left of +--++-", Reading.row(x, 1), "+--+");
        CHECK.due("side(1, 0, 1)", x.side(1, 0, 1), 5);
        CHECK.same("the right of +--++-", Reading.row(x, 1), "+--++");
        CHECK.due("side(0, 0, 0)", x.side(0, 0, 0), 4);
        CHECK.same("in its own place", Reading.row(x, 0), "+--+");
        CHECK.due("side(0, 0, 1)", x.side(0, 0, 1), 2);
        CHECK.same("and again", Reading.row(x, 0), "+-");
        x.row(6, 3, 1);
        CHECK.due("side(6, 6, 0)", x.side(6, 6, 0), 0);
        CHECK.same("the left of +--", Reading.row(x, 6), "");
        CHECK.due("side(2, 3, 0)", x.side(2, 3, 0), NO);
        CHECK.due("side(2, 3, 1)", x.side(2, 3, 1), NO);
        x.number(3, 5, 0);
        x.number(4, -24, 0);
        x.number(2, 1, 1);
        CHECK.due("side(2, 3, 1)", x.side(2, 3, 1), NO);
        CHECK.due("side(2, 4, 0)", x.side(2, 4, 0), NO);
        CHECK.same("what it was", Reading.row(x, 2), "+-");
        CHECK.due("side(2, 4, 1)", x.side(2, 4, 1), 23);
        CHECK.due("side(2, 3, 0)", x.side(2, 3, 0), 4);
        CHECK.due("side(12, 3, 0)", x.side(12, 3, 0), BAD);
        CHECK.due("side(-1, 3, 0)", x.side(-1, 3, 0), BAD);
        CHECK.due("side(2, 12, 0)", x.side(2, 12, 0), BAD);
        CHECK.due("side(2, -1, 0)", x.side(2, -1, 0), BAD);
        CHECK.due("side(2, 3, 2)", x.side(2, 3, 2), BAD);
        CHECK.due("side(2, 3, -1)", x.side(2, 3, -1), BAD);
        CHECK.due("side(2, 5, 2)", x.side(2, 5, 2), BAD);
    }

    private static void cutOrdinary() {
        BornNumbers x = new BornNumbers();
        x.number(0, 5, 2);
        x.number(1, 11, 3);
        x.number(2, -7, 0);
        x.number(3, 3, 0);
        CHECK.due("cut(11, 0, 0)", x.cut(11, 0, 0), 0);
        CHECK.due("cut(11, 1, 2)", x.cut(11, 1, 2), 6);
        CHECK.same("between 5/4 and 11/8", Reading.value(x, 11), "21/2^4");
        CHECK.due("cut(11, 1, 8)", x.cut(11, 1, 8), 2);
        CHECK.same("between 5/4 and 3", Reading.value(x, 11), "2/2^0");
        CHECK.due("cut(11, 4, 3)", x.cut(11, 4, 3), 0);
        CHECK.due("cut(11, 5, 10)", x.cut(11, 5, 10), 6);
        CHECK.due("cut(11, 9, 0)", x.cut(11, 9, 0), 4);
        CHECK.due("cut(11, 0, 6)", x.cut(11, 0, 6), 8);
        CHECK.same("below -7", Reading.value(x, 11), "-8/2^0");
        CHECK.due("cut(11, 16, 0)", x.cut(11, 16, 0), 1);
        CHECK.due("cut(11, 0, 16)", x.cut(11, 0, 16), 1);
        CHECK.same("below 0", Reading.row(x, 11), "-");
        CHECK.due("cut(11, 4, 16)", x.cut(11, 4, 16), 1);
        CHECK.due("cut(0, 1, 2)", x.cut(0, 1, 2), 6);
        CHECK.same("in a place of its heaps", Reading.value(x, 0), "21/2^4");
    }

    private static void cutFar() {
        BornNumbers x = new BornNumbers();
        x.number(0, 24, 0);
        x.number(1, -24, 0);
        x.row(2, 24, 1);
        x.number(3, 23, 0);
        CHECK.due("cut(5, 1, 0)", x.cut(5, 1, 0), FAR);
        CHECK.due("cut(5, 0, 2)", x.cut(5, 0, 2), FAR);
        CHECK.due("cut(5, 16, 4)", x.cut(5, 16, 4), FAR);
        CHECK.due("cut(5, 8, 1)", x.cut(5, 8, 1), FAR);
        CHECK.same("what it was", Reading.row(x, 5), "");
        CHECK.due("pair(0)", x.pair(0), NONE);
        CHECK.due("cut(5, 8, 0)", x.cut(5, 8, 0), 24);
        x.row(2, 23, 1);
        CHECK.due("cut(5, 16, 4)", x.cut(5, 16, 4), 24);
        CHECK.same("the last one", Reading.value(x, 5), "1/2^23");
    }

    private static void cutWrong() {
        BornNumbers x = new BornNumbers();
        x.number(0, 1, 0);
        CHECK.due("cut(-1, 0, 0)", x.cut(-1, 0, 0), BAD);
        CHECK.due("cut(12, 0, 0)", x.cut(12, 0, 0), BAD);
        CHECK.due("cut(0, 4096, 0)", x.cut(0, 4096, 0), BAD);
        CHECK.due("cut(0, 0, 4096)", x.cut(0, 0, 4096), BAD);
        CHECK.due("cut(0, -1, 0)", x.cut(0, -1, 0), BAD);
        CHECK.due("cut(0, 0, -2147483648)", x.cut(0, 0, Integer.MIN_VALUE), BAD);
        CHECK.due("cut(12, 1, 1)", x.cut(12, 1, 1), BAD);
        CHECK.due("cut(0, 4097, 1)", x.cut(0, 4097, 1), BAD);
        CHECK.due("pair(0)", x.pair(0), NONE);
        CHECK.same("what it was", Reading.value(x, 0), "1/2^0");
        CHECK.due("cut(0, 1, 1)", x.cut(0, 1, 1), NO);
        CHECK.due("cut(0, 1, 2)", x.cut(0, 1, 2), NO);
        CHECK.due("cut(0, 4095, 4095)", x.cut(0, 4095, 4095), NO);
        CHECK.same("what it was", Reading.value(x, 0), "1/2^0");
    }

    private static void pair() {
        BornNumbers x = new BornNumbers();
        CHECK.due("pair(0)", x.pair(0), NONE);
        CHECK.due("pair(1)", x.pair(1), NONE);
        CHECK.due("pair(2)", x.pair(2), BAD);
        CHECK.due("pair(-1)", x.pair(-1), BAD);
        x.number(1, 5, 0);
        x.number(2, 9, 0);
        x.number(3, 7, 0);
        x.number(4, 4, 0);
        pairOf(x, 0b01110, 0b11000, 1, 4);
        pairOf(x, 0b00101, 0b11000, 2, 3);
        pairOf(x, 0b01001, 0b11000, 3, 3);
        pairOf(x, 0b10001, 0b10111, 0, 0);
        pairOf(x, 1 << 11, 1 << 10, 11, 10);
        CHECK.due("a cut that is made", x.cut(0, 2, 4), 6);
        CHECK.due("a cut that is BAD", x.cut(12, 2, 2), BAD);
        CHECK.due("pair(0)", x.pair(0), 11);
        CHECK.due("pair(1)", x.pair(1), 10);
        CHECK.due("pair(2)", x.pair(2), BAD);
    }

    private static void pairOf(BornNumbers x, int left, int right, int wantLeft, int wantRight) {
        CHECK.due("cut(0, " + left + ", " + right + ")", x.cut(0, left, right), NO);
        CHECK.due("pair(0)", x.pair(0), wantLeft);
        CHECK.due("pair(1)", x.pair(1), wantRight);
    }

    private static void born() {
        BornNumbers x = new BornNumbers();
        String[] third = {"---", "--+", "-+-", "-++", "+--", "+-+", "++-", "+++"};
        for (int i = 0; i < third.length; i++) {
            CHECK.due("born(7, 3, " + i + ")", x.born(7, 3, i), 3);
            CHECK.same("born " + i, Reading.row(x, 7), third[i]);
        }
        CHECK.due("born(7, 0, 0)", x.born(7, 0, 0), 0);
        CHECK.due("born(7, 1, 1)", x.born(7, 1, 1), 1);
        CHECK.same("the second of day 1", Reading.row(x, 7), "+");
        CHECK.due("born(7, 20, 0)", x.born(7, 20, 0), 20);
        CHECK.same("the first of day 20", Reading.value(x, 7), "-20/2^0");
        CHECK.due("born(7, 20, 524288)", x.born(7, 20, 524288), 20);
        CHECK.same("the middle of day 20", Reading.value(x, 7), "1/2^19");
        CHECK.due("born(7, 20, 1048575)", x.born(7, 20, 1048575), 20);
        CHECK.due("born(7, 20, 1048576)", x.born(7, 20, 1048576), BAD);
        CHECK.due("born(7, 0, 1)", x.born(7, 0, 1), BAD);
        CHECK.due("born(7, 3, 8)", x.born(7, 3, 8), BAD);
        CHECK.due("born(7, 3, -1)", x.born(7, 3, -1), BAD);
        CHECK.due("born(7, -1, 0)", x.born(7, -1, 0), BAD);
        CHECK.due("born(7, 21, 0)", x.born(7, 21, 0), BAD);
        CHECK.due("born(7, 32, 0)", x.born(7, 32, 0), BAD);
        CHECK.due("born(12, 3, 0)", x.born(12, 3, 0), BAD);
        CHECK.due("born(-1, 3, 0)", x.born(-1, 3, 0), BAD);
        CHECK.same("what it was", Reading.value(x, 7), "20/2^0");
    }

    private static void between() {
        BornNumbers x = new BornNumbers();
        x.number(0, -24, 0);
        x.number(1, 24, 0);
        x.number(2, 1, 0);
        x.number(3, 2, 0);
        x.row(4, 24, 1);
        x.row(5, 23, 1);
        CHECK.due("between(0, 1, 0)", x.between(0, 1, 0), 1);
        CHECK.due("between(0, 1, 1)", x.between(0, 1, 1), 3);
        CHECK.due("between(0, 1, 20)", x.between(0, 1, 20), 2097151);
        CHECK.due("between(2, 3, 1)", x.between(2, 3, 1), 0);
        CHECK.due("between(2, 3, 2)", x.between(2, 3, 2), 0);
        CHECK.due("between(2, 3, 3)", x.between(2, 3, 3), 1);
        CHECK.due("between(2, 3, 20)", x.between(2, 3, 20), 262143);
        CHECK.due("between(6, 1, 0)", x.between(6, 1, 0), 0);
        CHECK.due("between(0, 6, 1)", x.between(0, 6, 1), 1);
        CHECK.due("between(4, 5, 20)", x.between(4, 5, 20), 0);
        CHECK.due("between(6, 4, 20)", x.between(6, 4, 20), 0);
        CHECK.due("between(4, 2, 2)", x.between(4, 2, 2), 1);
        CHECK.due("between(3, 2, 5)", x.between(3, 2, 5), NO);
        CHECK.due("between(2, 2, 5)", x.between(2, 2, 5), NO);
        CHECK.due("between(2, 3, -1)", x.between(2, 3, -1), BAD);
        CHECK.due("between(2, 3, 21)", x.between(2, 3, 21), BAD);
        CHECK.due("between(3, 2, 21)", x.between(3, 2, 21), BAD);
        CHECK.due("between(12, 3, 5)", x.between(12, 3, 5), BAD);
        CHECK.due("between(-1, 3, 5)", x.between(-1, 3, 5), BAD);
        CHECK.due("between(2, 12, 5)", x.between(2, 12, 5), BAD);
        CHECK.due("between(2, -1, 5)", x.between(2, -1, 5), BAD);
    }
}
