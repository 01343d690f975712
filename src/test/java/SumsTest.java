import java.util.Arrays;

/** Promises 14 to 20: term, told, sum, divide, order, take, near. */
public final class SumsTest {
    private static final int BAD = -1;
    private static final int NO = -2;
    private static final int FAR = -3;
    private static final int HIGH = -5;
    private static final int BAD_TOLD = -1000000001;
    private static final int NONE_TOLD = -1000000004;
    private static final int MOST = 1000000000;
    private static final Check CHECK = new Check("SumsTest");

    public static void main(String[] args) {
        term();
        termWrong();
        told();
        sumOrdinary();
        sumHigh();
        productHigh();
        sumWrong();
        divideOrdinary();
        divideEnds();
        divideHigh();
        divideWrong();
        order();
        take();
        near();
        CHECK.end();
    }

    private static void term() {
        BornNumbers x = new BornNumbers();
        CHECK.due("term(7, -6, 5, 0)", x.term(7, -6, 5, 0), 1);
        CHECK.due("term(7, 6, -3, 20)", x.term(7, 6, -3, 20), 2);
        CHECK.due("term(7, 0, 12, 3)", x.term(7, 0, 12, 3), 3);
        CHECK.same("a odd, or k 0", Reading.sum(x, 7), "[ -3/2^20W^6 3/2^1W^0 5/2^0W^-6 ]");
        CHECK.due("term(7, 0, -16, 3)", x.term(7, 0, -16, 3), 3);
        CHECK.same("put anew", Reading.sum(x, 7), "[ -3/2^20W^6 -2/2^0W^0 5/2^0W^-6 ]");
        CHECK.due("term(7, 6, 0, 7)", x.term(7, 6, 0, 7), 2);
        CHECK.due("term(7, 5, 0, 0)", x.term(7, 5, 0, 0), 2);
        CHECK.same("one less", Reading.sum(x, 7), "[ -2/2^0W^0 5/2^0W^-6 ]");
        CHECK.due("term(7, 1, MOST, 20)", x.term(7, 1, MOST, 20), 3);
        CHECK.due("term(7, 2, -MOST, 0)", x.term(7, 2, -MOST, 0), 4);
        CHECK.due("term(7, 3, MOST - 1, 20)", x.term(7, 3, MOST - 1, 20), 5);
        CHECK.same("the greatest", Reading.sum(x, 7),
            "[ 999999999/2^20W^3 -1000000000/2^0W^2 1953125/2^11W^1 -2/2^0W^0 5/2^0W^-6 ]");
        for (int e = -6; e <= 6; e++) {
            CHECK.due("term(0, " + e + ", 1, 0)", x.term(0, e, 1, 0), e + 7);
        }
        CHECK.due("told(0, 12, 0)", x.told(0, 12, 0), -6);
        CHECK.due("told(0, 13, 0)", x.told(0, 13, 0), NONE_TOLD);
    }

    private static void termWrong() {
        BornNumbers x = new BornNumbers();
        x.term(0, 0, 1, 0);
        CHECK.due("term(8, 0, 1, 0)", x.term(8, 0, 1, 0), BAD);
        CHECK.due("term(-1, 0, 1, 0)", x.term(-1, 0, 1, 0), BAD);
        CHECK.due("term(0, 7, 1, 0)", x.term(0, 7, 1, 0), BAD);
        CHECK.due("term(0, -7, 1, 0)", x.term(0, -7, 1, 0), BAD);
        CHECK.due("term(0, 0, MOST + 1, 0)", x.term(0, 0, MOST + 1, 0), BAD);
        CHECK.due("term(0, 0, -MOST - 1, 0)", x.term(0, 0, -MOST - 1, 0), BAD);
        CHECK.due("term(0, 0, MOST + 24, 3)", x.term(0, 0, MOST + 24, 3), BAD);
        CHECK.due("term(0, 0, 5, 21)", x.term(0, 0, 5, 21), BAD);
        CHECK.due("term(0, 0, 5, -1)", x.term(0, 0, 5, -1), BAD);
        CHECK.due("term(0, 0, 0, 21)", x.term(0, 0, 0, 21), BAD);
        CHECK.same("what it was", Reading.sum(x, 0), "[ 1/2^0W^0 ]");
    }

    private static void told() {
        BornNumbers x = new BornNumbers();
        x.term(3, -2, 3, 4);
        x.term(3, 4, -7, 0);
        CHECK.due("told(3, 0, 0)", x.told(3, 0, 0), 4);
        CHECK.due("told(3, 0, 1)", x.told(3, 0, 1), -7);
        CHECK.due("told(3, 0, 2)", x.told(3, 0, 2), 0);
        CHECK.due("told(3, 1, 0)", x.told(3, 1, 0), -2);
        CHECK.due("told(3, 1, 1)", x.told(3, 1, 1), 3);
        CHECK.due("told(3, 1, 2)", x.told(3, 1, 2), 4);
        CHECK.due("told(3, 2, 0)", x.told(3, 2, 0), NONE_TOLD);
        CHECK.due("told(3, 2147483647, 2)", x.told(3, Integer.MAX_VALUE, 2), NONE_TOLD);
        CHECK.due("told(3, -1, 0)", x.told(3, -1, 0), BAD_TOLD);
        CHECK.due("told(3, 0, 3)", x.told(3, 0, 3), BAD_TOLD);
        CHECK.due("told(3, 0, -1)", x.told(3, 0, -1), BAD_TOLD);
        CHECK.due("told(3, 9, 3)", x.told(3, 9, 3), BAD_TOLD);
        CHECK.due("told(8, 0, 0)", x.told(8, 0, 0), BAD_TOLD);
        CHECK.due("told(-1, 0, 0)", x.told(-1, 0, 0), BAD_TOLD);
    }

    private static void sumOrdinary() {
        BornNumbers x = new BornNumbers();
        x.term(0, 2, 3, 1);
        x.term(0, 0, 1, 2);
        x.term(1, 2, -3, 1);
        x.term(1, 0, 1, 2);
        x.term(1, -3, 5, 0);
        CHECK.due("sum(2, 0, 0, 1)", x.sum(2, 0, 0, 1), 2);
        CHECK.same("together", Reading.sum(x, 2), "[ 1/2^1W^0 5/2^0W^-3 ]");
        CHECK.due("sum(2, 1, 0, 1)", x.sum(2, 1, 0, 1), 2);
        CHECK.same("less", Reading.sum(x, 2), "[ 3/2^0W^2 -5/2^0W^-3 ]");
        CHECK.due("sum(2, 2, 0, 1)", x.sum(2, 2, 0, 1), 4);
        CHECK.same("times", Reading.sum(x, 2), "[ -9/2^2W^4 1/2^4W^0 15/2^1W^-1 5/2^2W^-3 ]");
        CHECK.due("sum(2, 2, 7, 1)", x.sum(2, 2, 7, 1), 0);
        CHECK.due("sum(0, 0, 0, 0)", x.sum(0, 0, 0, 0), 2);
        CHECK.same("twice itself", Reading.sum(x, 0), "[ 3/2^0W^2 1/2^1W^0 ]");
        CHECK.due("sum(0, 2, 0, 0)", x.sum(0, 2, 0, 0), 3);
        CHECK.same("times itself", Reading.sum(x, 0), "[ 9/2^0W^4 3/2^0W^2 1/2^2W^0 ]");
        CHECK.due("sum(0, 1, 1, 0)", x.sum(0, 1, 1, 0), 3);
        CHECK.same("less it", Reading.sum(x, 0), "[ -9/2^0W^4 -9/2^1W^2 5/2^0W^-3 ]");
        CHECK.due("sum(0, 1, 0, 0)", x.sum(0, 1, 0, 0), 0);
        x.term(3, -6, 1, 0);
        x.term(3, 6, 2, 0);
        x.term(4, 0, 3, 0);
        CHECK.due("sum(5, 2, 3, 4)", x.sum(5, 2, 3, 4), 2);
        CHECK.same("the outermost exponents", Reading.sum(x, 5), "[ 6/2^0W^6 3/2^0W^-6 ]");
        CHECK.due("sum(5, 2, 4, 3)", x.sum(5, 2, 4, 3), 2);
        CHECK.same("the other way round", Reading.sum(x, 5), "[ 6/2^0W^6 3/2^0W^-6 ]");
        CHECK.due("sum(5, 1, 5, 3)", x.sum(5, 1, 5, 3), 2);
        CHECK.same("less", Reading.sum(x, 5), "[ 4/2^0W^6 2/2^0W^-6 ]");
    }

    private static void sumHigh() {
        BornNumbers x = new BornNumbers();
        x.term(0, 0, MOST, 0);
        x.term(1, 0, 1, 0);
        x.term(2, 0, -1, 0);
        x.term(3, 0, MOST - 1, 0);
        x.term(4, 0, 1, 20);
        CHECK.due("sum(5, 0, 0, 1)", x.sum(5, 0, 0, 1), HIGH);
        CHECK.due("sum(5, 1, 0, 2)", x.sum(5, 1, 0, 2), HIGH);
        CHECK.due("sum(5, 0, 0, 4)", x.sum(5, 0, 0, 4), HIGH);
        CHECK.due("sum(5, 0, 3, 1)", x.sum(5, 0, 3, 1), 1);
        CHECK.due("sum(5, 1, 2, 3)", x.sum(5, 1, 2, 3), 1);
        CHECK.due("told(5, 0, 1)", x.told(5, 0, 1), -MOST);
        CHECK.due("sum(5, 1, 0, 0)", x.sum(5, 1, 0, 0), 0);
        x.term(6, 0, 999999999, 20);
        x.term(7, 0, 999999999, 20);
        CHECK.due("asked when a is odd", x.sum(5, 0, 6, 7), 1);
        CHECK.same("999999999 by 2^19", Reading.sum(x, 5), "[ 999999999/2^19W^0 ]");
        x.term(5, 4, 1, 0);
        CHECK.due("HIGH below a term that fits", x.sum(5, 0, 0, 5), HIGH);
        CHECK.same("what it was", Reading.sum(x, 5), "[ 1/2^0W^4 999999999/2^19W^0 ]");
    }

    private static void productHigh() {
        BornNumbers x = new BornNumbers();
        x.term(0, 3, 1, 0);
        x.term(1, 4, 1, 0);
        CHECK.due("W^3 times W^3", x.sum(2, 2, 0, 0), 1);
        CHECK.due("W^3 times W^4", x.sum(2, 2, 0, 1), HIGH);
        x.term(0, -3, 1, 0);
        x.term(1, -4, 1, 0);
        x.term(0, 3, 0, 0);
        x.term(1, 4, 0, 0);
        CHECK.due("W^-3 times W^-3", x.sum(2, 2, 0, 0), 1);
        CHECK.due("W^-3 times W^-4", x.sum(2, 2, 0, 1), HIGH);
        x.term(3, 0, 1, 11);
        x.term(4, 0, 1, 10);
        x.term(5, 0, 1, 9);
        CHECK.due("2^-11 times 2^-10", x.sum(2, 2, 3, 4), HIGH);
        CHECK.due("2^-11 times 2^-9", x.sum(2, 2, 3, 5), 1);
        CHECK.same("it", Reading.sum(x, 2), "[ 1/2^20W^0 ]");
        x.term(6, 0, MOST, 0);
        x.term(7, 0, 3, 9);
        CHECK.due("asked when a is odd, or k 0", x.sum(2, 2, 6, 7), 1);
        CHECK.same("it", Reading.sum(x, 2), "[ 5859375/2^0W^0 ]");
        productHighOnTheWay();
    }

    /** 900000000 comes to W^0 three times, the last time off: only the order tells whether that is HIGH. */
    private static void productHighOnTheWay() {
        BornNumbers x = new BornNumbers();
        x.term(0, 1, 30000, 0);
        x.term(0, 0, 30000, 0);
        x.term(0, -2, -30000, 0);
        x.term(1, 2, 30000, 0);
        x.term(1, 0, 30000, 0);
        x.term(1, -1, 30000, 0);
        CHECK.due("HIGH as a term comes to be", x.sum(2, 2, 0, 1), HIGH);
        CHECK.due("the other way round it fits", x.sum(2, 2, 1, 0), 7);
        CHECK.due("told(2, 3, 0)", x.told(2, 3, 0), 0);
        CHECK.due("told(2, 3, 1)", x.told(2, 3, 1), 900000000);
    }

    private static void sumWrong() {
        BornNumbers x = new BornNumbers();
        x.term(0, 6, 1, 0);
        CHECK.due("sum(8, 0, 0, 0)", x.sum(8, 0, 0, 0), BAD);
        CHECK.due("sum(-1, 0, 0, 0)", x.sum(-1, 0, 0, 0), BAD);
        CHECK.due("sum(0, 3, 0, 0)", x.sum(0, 3, 0, 0), BAD);
        CHECK.due("sum(0, -1, 0, 0)", x.sum(0, -1, 0, 0), BAD);
        CHECK.due("sum(0, 0, 8, 0)", x.sum(0, 0, 8, 0), BAD);
        CHECK.due("sum(0, 0, -1, 0)", x.sum(0, 0, -1, 0), BAD);
        CHECK.due("sum(0, 0, 0, 8)", x.sum(0, 0, 0, 8), BAD);
        CHECK.due("sum(0, 0, 0, -1)", x.sum(0, 0, 0, -1), BAD);
        CHECK.due("sum(8, 2, 0, 0)", x.sum(8, 2, 0, 0), BAD);
        CHECK.same("what it was", Reading.sum(x, 0), "[ 1/2^0W^6 ]");
    }

    private static void divideOrdinary() {
        BornNumbers x = new BornNumbers();
        x.term(0, 3, 1, 0);
        x.term(0, 0, -1, 0);
        x.term(1, 1, 1, 0);
        x.term(1, 0, -1, 0);
        CHECK.due("divide(2, 3, 0, 1, 20)", x.divide(2, 3, 0, 1, 20), 3);
        CHECK.same("the quotient", Reading.sum(x, 2), "[ 1/2^0W^2 1/2^0W^1 1/2^0W^0 ]");
        CHECK.same("the rest", Reading.sum(x, 3), "[ ]");
        CHECK.due("divide(2, 3, 0, 1, 2)", x.divide(2, 3, 0, 1, 2), 2);
        CHECK.same("the quotient", Reading.sum(x, 2), "[ 1/2^0W^2 1/2^0W^1 ]");
        CHECK.same("the rest", Reading.sum(x, 3), "[ 1/2^0W^1 -1/2^0W^0 ]");
        x.term(4, 0, -1, 3);
        CHECK.due("by -1/8", x.divide(2, 3, 1, 4, 1), 1);
        CHECK.same("the quotient", Reading.sum(x, 2), "[ -8/2^0W^1 ]");
        CHECK.same("the rest", Reading.sum(x, 3), "[ -1/2^0W^0 ]");
        x.term(4, 0, 16, 0);
        CHECK.due("by 16", x.divide(2, 3, 1, 4, 9), 2);
        CHECK.same("the quotient", Reading.sum(x, 2), "[ 1/2^4W^1 -1/2^4W^0 ]");
        CHECK.due("into its own places", x.divide(1, 0, 0, 1, 1), 1);
        CHECK.same("the quotient", Reading.sum(x, 1), "[ 1/2^0W^2 ]");
        CHECK.same("the rest", Reading.sum(x, 0), "[ 1/2^0W^2 -1/2^0W^0 ]");
    }

    private static void divideEnds() {
        BornNumbers x = new BornNumbers();
        x.term(0, 0, 1, 0);
        x.term(1, 1, 1, 0);
        x.term(1, 0, 1, 0);
        CHECK.due("1 by W and 1", x.divide(2, 3, 0, 1, 20), 6);
        CHECK.same("the quotient", Reading.sum(x, 2),
            "[ 1/2^0W^-1 -1/2^0W^-2 1/2^0W^-3 -1/2^0W^-4 1/2^0W^-5 -1/2^0W^-6 ]");
        CHECK.same("the rest", Reading.sum(x, 3), "[ 1/2^0W^-6 ]");
        CHECK.due("0 by W and 1", x.divide(2, 3, 7, 1, 20), 0);
        CHECK.same("the quotient", Reading.sum(x, 2), "[ ]");
        CHECK.same("the rest", Reading.sum(x, 3), "[ ]");
        x.term(4, -6, 3, 0);
        CHECK.due("3W^-6 by W and 1", x.divide(2, 3, 4, 1, 1), 0);
        CHECK.same("the rest", Reading.sum(x, 3), "[ 3/2^0W^-6 ]");
        x.term(5, 0, 1, 0);
        CHECK.due("3W^-6 by 1", x.divide(2, 3, 4, 5, 1), 1);
        CHECK.same("the quotient", Reading.sum(x, 2), "[ 3/2^0W^-6 ]");
        x.term(6, 6, 1, 0);
        CHECK.due("W^6 by 1", x.divide(2, 3, 6, 5, 20), 1);
        // All thirteen exponents may be put to the quotient.
        for (int e = -6; e <= 6; e++) {
            x.term(7, e, 1, 0);
        }
        CHECK.due("thirteen rounds", x.divide(2, 3, 7, 5, 20), 13);
        CHECK.due("they are the same", x.order(2, 7), 0);
    }

    private static void divideHigh() {
        BornNumbers x = new BornNumbers();
        x.term(0, 6, 1, 0);
        x.term(1, -1, 1, 0);
        CHECK.due("the exponent 7", x.divide(2, 3, 0, 1, 1), HIGH);
        x.term(4, 0, 1, 1);
        x.term(5, 0, 500000001, 0);
        CHECK.due("1000000002", x.divide(2, 3, 5, 4, 1), HIGH);
        x.term(5, 0, 500000000, 0);
        CHECK.due("1000000000", x.divide(2, 3, 5, 4, 1), 1);
        x.term(4, 0, 2, 0);
        x.term(5, 0, 1, 20);
        CHECK.due("2^-21", x.divide(2, 3, 5, 4, 1), HIGH);
        x.term(5, 0, 1, 19);
        CHECK.due("2^-20", x.divide(2, 3, 5, 4, 1), 1);
        // W^-6 is put, and W^-6 times W^-1 is beyond.
        x.term(6, 0, 1, 0);
        x.term(6, -1, 1, 0);
        x.term(7, -6, 1, 0);
        CHECK.due("a product below W^-6", x.divide(2, 3, 7, 6, 1), HIGH);
        x.term(7, -6, 0, 0);
        x.term(7, -4, 1, 0);
        CHECK.due("two rounds ahead of that", x.divide(2, 3, 7, 6, 2), 2);
        x.term(2, 1, 1, 0);
        CHECK.due("in the third one", x.divide(2, 3, 7, 6, 3), HIGH);
        CHECK.same("what it was", Reading.sum(x, 2), "[ 1/2^0W^1 1/2^0W^-4 -1/2^0W^-5 ]");
        CHECK.same("what it was", Reading.sum(x, 3), "[ 1/2^0W^-6 ]");
    }

    private static void divideWrong() {
        BornNumbers x = new BornNumbers();
        x.term(0, 1, 1, 0);
        x.term(1, 0, 1, 0);
        int[][] bad = {{8, 1, 0, 1, 1}, {-1, 1, 0, 1, 1}, {2, 8, 0, 1, 1}, {2, -1, 0, 1, 1}, {2, 3, 8, 1, 1},
            {2, 3, -1, 1, 1}, {2, 3, 0, 8, 1}, {2, 3, 0, -1, 1}, {2, 3, 0, 1, 0}, {2, 3, 0, 1, 21}, {2, 2, 0, 1, 1},
            {2, 2, 0, 7, 1}};
        for (int[] b : bad) {
            CHECK.due("divide(" + Arrays.toString(b) + ")", x.divide(b[0], b[1], b[2], b[3], b[4]), BAD);
        }
        CHECK.due("by 0", x.divide(0, 1, 0, 7, 1), NO);
        int[][] can = {{1, 0, 1}, {-1, 0, 1}, {2, 0, 1}, {-4, 0, 1}, {1, 20, 1}, {-1, 3, 1}, {536870912, 0, HIGH},
            {3, 0, NO}, {-6, 0, NO}, {3, 2, NO}, {MOST, 0, NO}, {6, 1, NO}, {4, 3, 1}};
        for (int[] c : can) {
            x.term(6, 0, 5, 0);
            x.term(6, 1, c[0], c[1]);
            CHECK.due("by " + c[0] + "/2^" + c[1], x.divide(2, 3, 0, 6, 1), c[2]);
        }
    }

    private static void order() {
        BornNumbers x = new BornNumbers();
        x.term(0, 1, 1, 20);
        x.term(1, 0, MOST, 0);
        x.term(2, 1, 1, 20);
        x.term(2, -6, -1, 0);
        x.term(3, 5, -1, 0);
        x.term(3, 4, MOST, 0);
        CHECK.due("order(0, 1)", x.order(0, 1), 1);
        CHECK.due("order(1, 0)", x.order(1, 0), -1);
        CHECK.due("order(0, 2)", x.order(0, 2), 1);
        CHECK.due("order(2, 0)", x.order(2, 0), -1);
        CHECK.due("order(3, 7)", x.order(3, 7), -1);
        CHECK.due("order(7, 3)", x.order(7, 3), 1);
        CHECK.due("order(3, 3)", x.order(3, 3), 0);
        CHECK.due("order(6, 7)", x.order(6, 7), 0);
        x.term(4, 3, 1, 0);
        x.term(4, 0, -1, 0);
        CHECK.due("HIGH below the greatest term", x.order(1, 4), HIGH);
        CHECK.due("HIGH below the greatest term", x.order(4, 1), HIGH);
        CHECK.due("order(8, 0)", x.order(8, 0), -9);
        CHECK.due("order(0, 8)", x.order(0, 8), -9);
        CHECK.due("order(-1, 0)", x.order(-1, 0), -9);
        CHECK.due("order(0, -1)", x.order(0, -1), -9);
    }

    private static void take() {
        BornNumbers x = new BornNumbers();
        x.term(0, 3, 1, 0);
        x.number(1, -11, 3);
        CHECK.due("take(0, 1)", x.take(0, 1), 1);
        CHECK.same("it", Reading.sum(x, 0), "[ -11/2^3W^0 ]");
        x.row(1, 21, 1);
        CHECK.due("2^-20", x.take(0, 1), 1);
        CHECK.same("it", Reading.sum(x, 0), "[ 1/2^20W^0 ]");
        x.row(1, 22, 1);
        CHECK.due("2^-21", x.take(0, 1), HIGH);
        x.row(1, 24, 1);
        CHECK.due("2^-23", x.take(0, 1), HIGH);
        CHECK.same("what it was", Reading.sum(x, 0), "[ 1/2^20W^0 ]");
        CHECK.due("an empty row", x.take(0, 2), 0);
        CHECK.same("it", Reading.sum(x, 0), "[ ]");
        CHECK.due("take(8, 0)", x.take(8, 0), BAD);
        CHECK.due("take(-1, 0)", x.take(-1, 0), BAD);
        CHECK.due("take(0, 12)", x.take(0, 12), BAD);
        CHECK.due("take(0, -1)", x.take(0, -1), BAD);
        CHECK.due("take(8, 1)", x.take(8, 1), BAD);
    }

    private static void near() {
        BornNumbers x = new BornNumbers();
        x.term(0, 0, -5, 2);
        x.term(0, -1, MOST, 0);
        CHECK.due("near(3, 0)", x.near(3, 0), 4);
        CHECK.same("it", Reading.row(x, 3), "--++");
        x.term(0, 1, 1, 20);
        CHECK.due("near(3, 0)", x.near(3, 0), NO);
        x.term(0, 1, 0, 0);
        x.term(0, 0, 25, 0);
        CHECK.due("25", x.near(3, 0), FAR);
        x.term(0, 0, 17 * 1048576 / 4 + 1, 20);
        CHECK.due("a k of 20 above 4", x.near(3, 0), FAR);
        x.term(0, 6, 1, 0);
        CHECK.due("NO ahead of FAR", x.near(3, 0), NO);
        CHECK.same("what it was", Reading.row(x, 3), "--++");
        x.term(1, -6, 7, 0);
        CHECK.due("no such term", x.near(3, 1), 0);
        CHECK.same("it", Reading.row(x, 3), "");
        x.term(1, 0, 1, 20);
        CHECK.due("2^-20", x.near(3, 1), 21);
        CHECK.due("near(12, 0)", x.near(12, 0), BAD);
        CHECK.due("near(-1, 0)", x.near(-1, 0), BAD);
        CHECK.due("near(0, 8)", x.near(0, 8), BAD);
        CHECK.due("near(0, -1)", x.near(0, -1), BAD);
    }
}
