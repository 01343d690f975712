/** The document sentence by sentence, promises 14 to 20: each one that names a boundary has a run of its own here. */
public final class SumSentencesTest {
    private static final Check CHECK = new Check("SumSentencesTest");
    private static final Script SCRIPT = new Script(CHECK);

    public static void main(String[] args) {
        term();
        termNone();
        termWrong();
        told();
        highOfATerm();
        highOfAProduct();
        highAsItComesToBe();
        sumOfNothingAndOfAll();
        sumWrong();
        divideEnds();
        divideNothing();
        divideWhat();
        divideHigh();
        divideHighBehind();
        divideInPlace();
        divideWrong();
        order();
        orderHigh();
        take();
        near();
        CHECK.end();
    }

    private static void term() {
        SCRIPT.run("EXPONENT from -6 to 6; a from -1000000000 to 1000000000, k 0 to 20", """
            term(0, 6, 1000000000, 0) = 1
            term(0, -6, -1000000000, 0) = 2
            term(0, 0, 999999999, 20) = 3
            term(0, 1, -999999999, 20) = 4
            terms(0) = [ 1000000000/2^0W^6 -999999999/2^20W^1 999999999/2^20W^0 -1000000000/2^0W^-6 ]
            term(7, 0, -1, 20) = 1
            terms(7) = [ -1/2^20W^0 ]
            """);
        SCRIPT.run("a odd, or k 0", """
            term(0, 0, 1000000000, 20) = 1
            terms(0) = [ 1953125/2^11W^0 ]
            term(0, 0, -536870912, 20) = 1
            terms(0) = [ -512/2^0W^0 ]
            term(0, 0, 6, 1) = 1
            terms(0) = [ 3/2^0W^0 ]
            term(0, 0, 6, 0) = 1
            terms(0) = [ 6/2^0W^0 ]
            term(0, 0, 6, 2) = 1
            terms(0) = [ 3/2^1W^0 ]
            """);
        SCRIPT.run("at most one for each EXPONENT", """
            term(0, 3, 1, 0) = 1
            term(0, 3, 2, 0) = 1
            term(0, 3, 2, 0) = 1
            terms(0) = [ 2/2^0W^3 ]
            """);
    }

    private static void termNone() {
        SCRIPT.run("a 0: none", """
            term(0, 6, 0, 0) = 0
            term(0, -6, 0, 20) = 0
            term(0, 6, 5, 0) = 1
            term(0, -6, 5, 0) = 2
            term(0, 0, 0, 3) = 2
            term(0, 6, 0, 0) = 1
            terms(0) = [ 5/2^0W^-6 ]
            term(0, -6, 0, 20) = 0
            terms(0) = [ ]
            order(0, 1) = 0
            """);
    }

    private static void termWrong() {
        SCRIPT.run("BAD", """
            term(0, 2, 3, 0) = 1
            term(0, 7, 1, 0) = -1
            term(0, -7, 1, 0) = -1
            term(0, MAX, 1, 0) = -1
            term(0, MIN, 1, 0) = -1
            term(0, 2, 1000000001, 0) = -1
            term(0, 2, -1000000001, 0) = -1
            term(0, 2, 1000000002, 1) = -1
            term(0, 2, MAX, 20) = -1
            term(0, 2, MIN, 20) = -1
            term(0, 2, 1, 21) = -1
            term(0, 2, 1, -1) = -1
            term(0, 2, 1, MAX) = -1
            term(0, 2, 1, MIN) = -1
            term(0, 2, 2, 21) = -1
            term(0, 2, 0, 21) = -1
            term(0, 7, 0, 0) = -1
            term(8, 2, 1, 0) = -1
            term(-1, 2, 1, 0) = -1
            terms(0) = [ 3/2^0W^2 ]
            """);
    }

    private static void told() {
        SCRIPT.run("NONE answers -1000000004; BAD (i below 0) -1000000001", """
            told(0, 0, 0) = -1000000004
            told(0, 0, 1) = -1000000004
            told(0, 0, 2) = -1000000004
            told(0, MAX, 0) = -1000000004
            told(0, -1, 0) = -1000000001
            told(0, MIN, 0) = -1000000001
            told(0, 0, 3) = -1000000001
            told(0, 0, -1) = -1000000001
            told(0, 0, MAX) = -1000000001
            told(0, 0, MIN) = -1000000001
            term(0, -6, -1000000000, 0) = 1
            told(0, 0, 0) = -6
            told(0, 0, 1) = -1000000000
            told(0, 0, 2) = 0
            told(0, 1, 0) = -1000000004
            told(0, 1, 1) = -1000000004
            told(0, 1, 2) = -1000000004
            told(0, 0, 3) = -1000000001
            term(7, 6, 1, 20) = 1
            told(7, 0, 0) = 6
            told(7, 0, 1) = 1
            told(7, 0, 2) = 20
            told(7, 1, 2) = -1000000004
            """);
        for (int count = 1; count <= 13; count++) {
            BornNumbers x = new BornNumbers();
            for (int i = 0; i < count; i++) {
                CHECK.due("the TERMS of a SUM", x.term(3, i - 6, i + 1, 0), i + 1);
            }
            for (int i = 0; i < count; i++) {
                CHECK.due("the greatest EXPONENT first", x.told(3, i, 0), count - 7 - i);
                CHECK.due("its factor", x.told(3, i, 1), count - i);
            }
            CHECK.due("none behind the last of " + count, x.told(3, count, 0), -1000000004);
        }
    }

    private static void highOfATerm() {
        SCRIPT.run("HIGH: a would be beyond that, of a sum and of a difference", """
            term(0, 0, 999999999, 0) = 1
            term(1, 0, 1, 0) = 1
            term(2, 0, 2, 0) = 1
            term(3, 0, -999999999, 0) = 1
            sum(4, 0, 0, 1) = 1
            terms(4) = [ 1000000000/2^0W^0 ]
            sum(4, 0, 0, 2) = -5
            sum(5, 1, 3, 1) = 1
            terms(5) = [ -1000000000/2^0W^0 ]
            sum(5, 1, 3, 2) = -5
            sum(4, 1, 0, 3) = -5
            sum(4, 0, 3, 3) = -5
            sum(4, 1, 4, 5) = -5
            terms(4) = [ 1000000000/2^0W^0 ]
            terms(5) = [ -1000000000/2^0W^0 ]
            sum(6, 0, 4, 5) = 0
            """);
        SCRIPT.run("asked of the TERM with a odd, or k 0", """
            term(0, 0, 999999999, 1) = 1
            term(1, 0, 1, 1) = 1
            sum(2, 0, 0, 0) = 1
            terms(2) = [ 999999999/2^0W^0 ]
            sum(2, 0, 0, 1) = 1
            terms(2) = [ 500000000/2^0W^0 ]
            sum(2, 0, 2, 1) = -5
            term(3, 0, 499999999, 0) = 1
            sum(4, 0, 3, 1) = 1
            terms(4) = [ 999999999/2^1W^0 ]
            term(3, 0, 1000000000, 0) = 1
            term(5, 0, 1, 20) = 1
            sum(4, 0, 3, 5) = -5
            sum(4, 1, 3, 5) = -5
            sum(4, 1, 5, 3) = -5
            terms(4) = [ 999999999/2^1W^0 ]
            """);
    }

    private static void highOfAProduct() {
        SCRIPT.run("HIGH: an EXPONENT would be beyond that", """
            term(0, 5, 1, 0) = 1
            term(1, 1, 1, 0) = 1
            term(2, 2, 1, 0) = 1
            term(3, -5, 1, 0) = 1
            term(4, -1, 1, 0) = 1
            term(5, -2, 1, 0) = 1
            sum(6, 2, 0, 1) = 1
            terms(6) = [ 1/2^0W^6 ]
            sum(6, 2, 0, 2) = -5
            sum(6, 2, 2, 0) = -5
            terms(6) = [ 1/2^0W^6 ]
            sum(7, 2, 3, 4) = 1
            terms(7) = [ 1/2^0W^-6 ]
            sum(7, 2, 3, 5) = -5
            sum(7, 2, 5, 3) = -5
            sum(7, 2, 6, 6) = -5
            terms(7) = [ 1/2^0W^-6 ]
            sum(7, 2, 7, 7) = -5
            sum(5, 2, 6, 7) = 1
            terms(5) = [ 1/2^0W^0 ]
            """);
        SCRIPT.run("HIGH: a, k would be beyond that", """
            term(0, 0, 31250, 0) = 1
            term(1, 0, 32000, 0) = 1
            sum(2, 2, 0, 1) = 1
            terms(2) = [ 1000000000/2^0W^0 ]
            term(1, 0, -32000, 0) = 1
            sum(2, 2, 0, 1) = 1
            terms(2) = [ -1000000000/2^0W^0 ]
            term(1, 0, 32001, 0) = 1
            sum(2, 2, 0, 1) = -5
            term(1, 0, 101, 0) = 1
            term(0, 0, 9900991, 0) = 1
            sum(2, 2, 0, 1) = -5
            term(0, 0, -9900991, 0) = 1
            sum(2, 2, 0, 1) = -5
            terms(2) = [ -1000000000/2^0W^0 ]
            term(3, 0, 3, 10) = 1
            sum(4, 2, 3, 3) = 1
            terms(4) = [ 9/2^20W^0 ]
            term(5, 0, 3, 11) = 1
            sum(4, 2, 3, 5) = -5
            sum(4, 2, 4, 4) = -5
            terms(4) = [ 9/2^20W^0 ]
            """);
        SCRIPT.run("asked of a product with a odd, or k 0", """
            term(0, 0, 2, 0) = 1
            term(1, 0, 999999999, 3) = 1
            sum(2, 2, 0, 1) = 1
            terms(2) = [ 999999999/2^2W^0 ]
            term(0, 0, 16, 0) = 1
            sum(2, 2, 0, 1) = -5
            """);
    }

    private static void highAsItComesToBe() {
        SCRIPT.run("asked of each product, though the TERM would fit: 1200000000 and -500000000 at W", """
            term(0, 1, 20000, 0) = 1
            term(0, 0, 40000, 0) = 2
            term(1, 1, 30000, 0) = 1
            term(1, 0, -25000, 0) = 2
            sum(2, 2, 0, 1) = -5
            sum(2, 2, 1, 0) = -5
            term(1, 1, 25000, 0) = 2
            sum(2, 2, 0, 1) = 3
            terms(2) = [ 500000000/2^0W^2 500000000/2^0W^1 -1000000000/2^0W^0 ]
            """);
        SCRIPT.run("then of each TERM as it comes to be: 1000000000, then 1 more or less", """
            term(0, 1, 31250, 0) = 1
            term(0, 0, 1, 0) = 2
            term(1, 1, 1, 0) = 1
            term(1, 0, 32000, 0) = 2
            sum(2, 2, 0, 1) = -5
            term(1, 1, -1, 0) = 2
            sum(2, 2, 0, 1) = 3
            terms(2) = [ -31250/2^0W^2 999999999/2^0W^1 32000/2^0W^0 ]
            """);
        SCRIPT.run("as it comes to be: 900000000 twice, and off it once, in either order of the two", """
            term(0, 1, 30000, 0) = 1
            term(0, 0, 30000, 0) = 2
            term(0, -2, -30000, 0) = 3
            term(1, 2, 30000, 0) = 1
            term(1, 0, 30000, 0) = 2
            term(1, -1, 30000, 0) = 3
            sum(2, 2, 0, 1) = -5
            terms(2) = [ ]
            sum(2, 2, 1, 0) = 7
            told(2, 3, 0) = 0
            told(2, 3, 1) = 900000000
            """);
        SCRIPT.run("TERM by TERM of the second: HIGH at the last of them leaves all as it was", """
            term(0, 6, 1, 0) = 1
            term(0, -6, 1000000000, 0) = 2
            term(1, 6, 1, 0) = 1
            term(1, -6, 1, 0) = 2
            sum(0, 0, 0, 1) = -5
            sum(1, 0, 0, 1) = -5
            terms(0) = [ 1/2^0W^6 1000000000/2^0W^-6 ]
            terms(1) = [ 1/2^0W^6 1/2^0W^-6 ]
            sum(0, 1, 0, 1) = 1
            terms(0) = [ 999999999/2^0W^-6 ]
            """);
    }

    private static void sumOfNothingAndOfAll() {
        SCRIPT.run("the SUM that is 0", """
            term(0, 2, 3, 1) = 1
            sum(1, 0, 5, 6) = 0
            sum(1, 0, 0, 5) = 1
            terms(1) = [ 3/2^1W^2 ]
            sum(1, 1, 5, 0) = 1
            terms(1) = [ -3/2^1W^2 ]
            sum(1, 2, 0, 5) = 0
            terms(1) = [ ]
            term(1, 0, 1, 0) = 1
            sum(1, 2, 5, 0) = 0
            terms(1) = [ ]
            sum(0, 1, 0, 0) = 0
            terms(0) = [ ]
            """);
        BornNumbers x = new BornNumbers();
        StringBuilder all = new StringBuilder("[");
        for (int e = 6; e >= -6; e--) {
            x.term(0, e, 500000000, 0);
            all.append(" 1000000000/2^0W^").append(e);
        }
        CHECK.due("all its TERMS, twice", x.sum(1, 0, 0, 0), 13);
        CHECK.same("all its TERMS, twice", Reading.sum(x, 1), all.append(" ]").toString());
        CHECK.due("off it again", x.sum(2, 1, 1, 0), 13);
        CHECK.due("is what it was", x.order(2, 0), 0);
        CHECK.due("once more", x.sum(2, 0, 1, 0), -5);
        x.term(3, 0, 2, 0);
        CHECK.due("all its TERMS, times 2", x.sum(0, 2, 3, 0), 13);
        CHECK.due("is the same", x.order(0, 1), 0);
        x.term(3, 1, 1, 0);
        CHECK.due("all its TERMS, times W and 2", x.sum(0, 2, 3, 2), -5);
    }

    private static void sumWrong() {
        SCRIPT.run("BAD", """
            term(0, 0, 1, 0) = 1
            sum(7, 0, 0, 7) = 1
            sum(7, 2, 7, 0) = 1
            sum(0, 3, 0, 0) = -1
            sum(0, -1, 0, 0) = -1
            sum(0, MAX, 0, 0) = -1
            sum(0, MIN, 0, 0) = -1
            sum(8, 0, 0, 0) = -1
            sum(0, 0, 8, 0) = -1
            sum(0, 0, 0, 8) = -1
            sum(-1, 0, 0, 0) = -1
            sum(0, 0, -1, 0) = -1
            sum(0, 0, 0, -1) = -1
            terms(0) = [ 1/2^0W^0 ]
            """);
    }

    private static void divideEnds() {
        SCRIPT.run("it ends behind the told rounds", """
            term(0, 2, 1, 0) = 1
            term(1, 1, 1, 0) = 1
            term(1, 0, 1, 0) = 2
            divide(2, 3, 0, 1, 1) = 1
            terms(2) = [ 1/2^0W^1 ]
            terms(3) = [ -1/2^0W^1 ]
            divide(2, 3, 0, 1, 2) = 2
            terms(2) = [ 1/2^0W^1 -1/2^0W^0 ]
            terms(3) = [ 1/2^0W^0 ]
            divide(2, 3, 0, 1, 20) = 8
            terms(3) = [ 1/2^0W^-6 ]
            """);
        SCRIPT.run("or if the REST is 0", """
            term(0, 1, 1, 0) = 1
            term(0, 0, 1, 0) = 2
            divide(2, 3, 0, 0, 1) = 1
            divide(2, 3, 0, 0, 20) = 1
            terms(2) = [ 1/2^0W^0 ]
            terms(3) = [ ]
            """);
        for (int e = -6; e <= 6; e++) {
            SCRIPT.run("or if the REST is 0, whatever the EXPONENT of y", """
                term(0, %1$d, 3, 0) = 1
                term(1, %1$d, 2, 0) = 1
                divide(2, 3, 0, 1, 20) = 1
                terms(2) = [ 3/2^1W^0 ]
                terms(3) = [ ]
                divide(2, 3, 3, 1, 20) = 0
                """.formatted(e));
        }
        SCRIPT.run("or if the EXPONENT of what would be put is below -6", """
            term(0, -6, 5, 0) = 1
            term(1, 1, 1, 0) = 1
            divide(2, 3, 0, 1, 20) = 0
            terms(2) = [ ]
            terms(3) = [ 5/2^0W^-6 ]
            term(0, -5, 7, 0) = 2
            divide(2, 3, 0, 1, 20) = 1
            terms(2) = [ 7/2^0W^-6 ]
            terms(3) = [ 5/2^0W^-6 ]
            term(4, 6, 1, 0) = 1
            divide(2, 3, 0, 4, 1) = 0
            divide(2, 3, 4, 4, 1) = 1
            term(5, 0, 1, 0) = 1
            divide(2, 3, 5, 4, 20) = 1
            terms(2) = [ 1/2^0W^-6 ]
            """);
    }

    private static void divideNothing() {
        SCRIPT.run("0 by something: no round, both become 0", """
            term(0, 1, 1, 0) = 1
            term(2, 1, 5, 0) = 1
            term(3, 1, 5, 0) = 1
            divide(2, 3, 7, 0, 1) = 0
            terms(2) = [ ]
            terms(3) = [ ]
            """);
        SCRIPT.run("NO: y is 0", """
            term(2, 1, 5, 0) = 1
            divide(2, 3, 2, 7, 1) = -2
            divide(2, 3, 7, 7, 1) = -2
            divide(2, 3, 6, 7, 20) = -2
            terms(2) = [ 5/2^0W^1 ]
            """);
        BornNumbers x = new BornNumbers();
        for (int e = -6; e <= 6; e++) {
            x.term(0, e, 1, 0);
        }
        x.term(1, 0, -1, 0);
        CHECK.due("all TERMS by -1", x.divide(2, 3, 0, 1, 20), 13);
        CHECK.due("are all of them", x.sum(4, 0, 2, 0), 0);
        CHECK.due("and no REST", x.told(3, 0, 0), -1000000004);
        CHECK.due("all TERMS by all TERMS", x.divide(2, 3, 0, 0, 20), 1);
        CHECK.due("12 of 13", x.divide(2, 3, 0, 1, 12), 12);
        CHECK.same("the last one", Reading.sum(x, 3), "[ 1/2^0W^-6 ]");
        CHECK.due("13 of 13", x.divide(2, 3, 0, 1, 13), 13);
        x.term(1, -6, 1, 0);
        CHECK.due("all TERMS by -1 and W^-6", x.divide(2, 3, 0, 1, 6), 6);
        CHECK.due("a product has the EXPONENT -6", x.divide(2, 3, 0, 1, 7), 7);
        CHECK.due("a product has the EXPONENT -7", x.divide(2, 3, 0, 1, 8), -5);
    }

    private static void divideWhat() {
        SCRIPT.run("a of which is 1 or -1, or twice, four times .. that", """
            term(0, 1, 6, 0) = 1
            term(1, 0, 1, 0) = 1
            divide(2, 3, 0, 1, 1) = 1
            terms(2) = [ 6/2^0W^1 ]
            term(1, 0, -1, 0) = 1
            divide(2, 3, 0, 1, 1) = 1
            terms(2) = [ -6/2^0W^1 ]
            term(1, 0, 4, 0) = 1
            divide(2, 3, 0, 1, 1) = 1
            terms(2) = [ 3/2^1W^1 ]
            term(1, 0, -1, 20) = 1
            divide(2, 3, 0, 1, 1) = 1
            terms(2) = [ -6291456/2^0W^1 ]
            term(0, 1, 536870912, 0) = 1
            term(1, 0, 536870912, 0) = 1
            divide(2, 3, 0, 1, 1) = 1
            terms(2) = [ 1/2^0W^1 ]
            term(1, 0, -536870912, 0) = 1
            divide(2, 3, 0, 1, 1) = 1
            terms(2) = [ -1/2^0W^1 ]
            """);
        SCRIPT.run("NO: its greatest TERM can't divide", """
            term(0, 1, 6, 0) = 1
            term(1, 1, 3, 0) = 1
            term(1, 0, 1, 0) = 2
            divide(2, 3, 0, 1, 1) = -2
            term(1, 1, -3, 0) = 2
            divide(2, 3, 0, 1, 1) = -2
            term(1, 1, 6, 0) = 2
            divide(2, 3, 0, 1, 1) = -2
            term(1, 1, 3, 20) = 2
            divide(2, 3, 0, 1, 1) = -2
            term(1, 1, 1000000000, 0) = 2
            divide(2, 3, 0, 1, 1) = -2
            divide(2, 3, 1, 1, 1) = -2
            terms(2) = [ ]
            term(1, 1, 2, 0) = 2
            term(1, 0, 3, 0) = 2
            divide(2, 3, 0, 1, 1) = 1
            terms(2) = [ 3/2^0W^0 ]
            terms(3) = [ -9/2^0W^0 ]
            """);
    }

    private static void divideHigh() {
        SCRIPT.run("HIGH: what would be put has an EXPONENT above 6", """
            term(0, 6, 1, 0) = 1
            term(1, -1, 1, 0) = 1
            divide(2, 3, 0, 1, 1) = -5
            term(1, -6, 1, 0) = 2
            divide(2, 3, 0, 1, 20) = -5
            term(4, 5, 1, 0) = 1
            term(5, -1, 1, 0) = 1
            divide(2, 3, 4, 5, 1) = 1
            terms(2) = [ 1/2^0W^6 ]
            """);
        SCRIPT.run("HIGH: a or k of what would be put", """
            term(0, 0, 500000000, 0) = 1
            term(1, 0, 1, 1) = 1
            divide(2, 3, 0, 1, 1) = 1
            terms(2) = [ 1000000000/2^0W^0 ]
            term(0, 0, -500000001, 0) = 1
            divide(2, 3, 0, 1, 1) = -5
            term(0, 0, 999999999, 20) = 1
            term(1, 0, 1, 20) = 1
            divide(2, 3, 0, 1, 1) = 1
            terms(2) = [ 999999999/2^0W^0 ]
            term(0, 0, 1, 19) = 1
            term(1, 0, 2, 0) = 1
            divide(2, 3, 0, 1, 1) = 1
            terms(2) = [ 1/2^20W^0 ]
            term(1, 0, 4, 0) = 1
            divide(2, 3, 0, 1, 1) = -5
            term(0, 0, 1, 0) = 1
            term(1, 0, 1048576, 0) = 1
            divide(2, 3, 0, 1, 1) = 1
            terms(2) = [ 1/2^20W^0 ]
            term(1, 0, 2097152, 0) = 1
            divide(2, 3, 0, 1, 1) = -5
            terms(2) = [ 1/2^20W^0 ]
            """);
    }

    private static void divideHighBehind() {
        SCRIPT.run("HIGH: asked of each product, then of each TERM of the REST", """
            term(0, 1, 40000, 0) = 1
            term(0, 0, 1000000000, 0) = 2
            term(1, 1, 1, 0) = 1
            term(1, 0, 30000, 0) = 2
            divide(2, 3, 0, 1, 1) = -5
            term(1, 0, 25000, 0) = 2
            divide(2, 3, 0, 1, 1) = 1
            terms(2) = [ 40000/2^0W^0 ]
            terms(3) = [ ]
            term(0, 0, -1, 0) = 2
            divide(2, 3, 0, 1, 1) = -5
            term(0, 0, 1, 0) = 2
            divide(2, 3, 0, 1, 1) = 1
            terms(3) = [ -999999999/2^0W^0 ]
            """);
        SCRIPT.run("HIGH: k of a product", """
            term(0, 1, 1, 10) = 1
            term(1, 1, 1, 0) = 1
            term(1, 0, 1, 10) = 2
            divide(2, 3, 0, 1, 1) = 1
            terms(3) = [ -1/2^20W^0 ]
            divide(2, 3, 0, 1, 2) = -5
            term(1, 0, 1, 11) = 2
            divide(2, 3, 0, 1, 1) = -5
            terms(3) = [ -1/2^20W^0 ]
            """);
        SCRIPT.run("HIGH: the EXPONENT of a product is below -6, of what is put it is not", """
            term(0, -4, 1, 0) = 1
            term(1, 0, 1, 0) = 1
            term(1, -1, 1, 0) = 2
            term(2, 3, 7, 0) = 1
            term(3, 3, 9, 0) = 1
            divide(2, 3, 0, 1, 3) = -5
            terms(2) = [ 7/2^0W^3 ]
            terms(3) = [ 9/2^0W^3 ]
            divide(2, 3, 0, 1, 2) = 2
            terms(2) = [ 1/2^0W^-4 -1/2^0W^-5 ]
            terms(3) = [ 1/2^0W^-6 ]
            """);
    }

    private static void divideInPlace() {
        String made = """
            term(0, 2, 1, 0) = 1
            term(0, 0, -4, 0) = 2
            term(1, 1, 1, 0) = 1
            term(1, 0, 1, 0) = 2
            """;
        SCRIPT.run("q is x, r is y", made + """
            divide(0, 1, 0, 1, 2) = 2
            terms(0) = [ 1/2^0W^1 -1/2^0W^0 ]
            terms(1) = [ -3/2^0W^0 ]
            """);
        SCRIPT.run("q is y, r is x", made + """
            divide(1, 0, 0, 1, 2) = 2
            terms(1) = [ 1/2^0W^1 -1/2^0W^0 ]
            terms(0) = [ -3/2^0W^0 ]
            """);
        SCRIPT.run("q is x and y", made + """
            divide(0, 7, 0, 0, 20) = 1
            terms(0) = [ 1/2^0W^0 ]
            terms(7) = [ ]
            """);
        SCRIPT.run("r is x and y", made + """
            divide(7, 0, 0, 0, 20) = 1
            terms(7) = [ 1/2^0W^0 ]
            terms(0) = [ ]
            """);
        SCRIPT.run("NO and HIGH in place", made + """
            divide(0, 5, 1, 5, 1) = -2
            term(5, 2, 1, 0) = 1
            term(5, -6, 1000000000, 0) = 2
            divide(5, 0, 0, 5, 2) = -5
            terms(0) = [ 1/2^0W^2 -4/2^0W^0 ]
            terms(5) = [ 1/2^0W^2 1000000000/2^0W^-6 ]
            """);
    }

    private static void divideWrong() {
        SCRIPT.run("rounds 1 to 20; BAD: also q is r", """
            term(0, 1, 6, 0) = 1
            term(1, 0, 1, 0) = 1
            term(2, 4, 1, 0) = 1
            divide(2, 3, 0, 1, 0) = -1
            divide(2, 3, 0, 1, 21) = -1
            divide(2, 3, 0, 1, -1) = -1
            divide(2, 3, 0, 1, MAX) = -1
            divide(2, 3, 0, 1, MIN) = -1
            divide(2, 2, 0, 1, 1) = -1
            divide(0, 0, 0, 1, 1) = -1
            divide(8, 8, 0, 1, 1) = -1
            divide(8, 3, 0, 1, 1) = -1
            divide(2, 8, 0, 1, 1) = -1
            divide(2, 3, 8, 1, 1) = -1
            divide(2, 3, 0, 8, 1) = -1
            divide(-1, 3, 0, 1, 1) = -1
            divide(2, -1, 0, 1, 1) = -1
            divide(2, 3, -1, 1, 1) = -1
            divide(2, 3, 0, -1, 1) = -1
            terms(2) = [ 1/2^0W^4 ]
            divide(7, 2, 0, 1, 1) = 1
            terms(7) = [ 6/2^0W^1 ]
            terms(2) = [ ]
            divide(2, 7, 0, 1, 20) = 1
            """);
    }

    private static void order() {
        SCRIPT.run("the TERM with the greatest EXPONENT of their difference is above 0", """
            term(0, 6, 1, 20) = 1
            term(1, 5, 1000000000, 0) = 1
            order(0, 1) = 1
            order(1, 0) = -1
            term(2, 6, 1, 20) = 1
            term(2, -6, 1, 20) = 2
            order(0, 2) = -1
            order(2, 0) = 1
            order(0, 0) = 0
            order(2, 2) = 0
            order(7, 7) = 0
            order(6, 7) = 0
            term(3, -6, -1, 20) = 1
            order(3, 7) = -1
            order(7, 3) = 1
            """);
        SCRIPT.run("BAD answers -9", """
            order(7, 7) = 0
            order(8, 0) = -9
            order(0, 8) = -9
            order(-1, 0) = -9
            order(0, -1) = -9
            order(MIN, 0) = -9
            order(0, MAX) = -9
            order(8, 8) = -9
            """);
    }

    private static void orderHigh() {
        SCRIPT.run("HIGH (of the difference) -5", """
            term(0, 0, 1000000000, 0) = 1
            term(1, 0, -1, 0) = 1
            term(2, 0, 1, 20) = 1
            order(0, 1) = -5
            order(1, 0) = -5
            order(0, 2) = -5
            order(0, 0) = 0
            term(3, 0, 1, 0) = 1
            order(0, 3) = 1
            order(3, 0) = -1
            term(3, 6, 1, 0) = 2
            term(3, 0, -1, 0) = 2
            order(3, 0) = -5
            order(0, 3) = -5
            terms(0) = [ 1000000000/2^0W^0 ]
            terms(3) = [ 1/2^0W^6 -1/2^0W^0 ]
            term(3, 0, 0, 0) = 1
            order(3, 0) = 1
            """);
    }

    private static void take() {
        SCRIPT.run("HIGH: its k is above 20", """
            term(7, 6, 1, 0) = 1
            term(7, -6, 1, 0) = 2
            row(11, 22, 1) = 22
            take(7, 11) = -5
            row(11, 24, 1) = 24
            take(7, 11) = -5
            row(11, 24, 7) = 24
            take(7, 11) = -5
            row(11, 24, 16777208) = 24
            take(7, 11) = -5
            terms(7) = [ 1/2^0W^6 1/2^0W^-6 ]
            row(11, 24, 15) = 24
            take(7, 11) = 1
            terms(7) = [ 3145729/2^20W^0 ]
            row(11, 21, 2097150) = 21
            take(7, 11) = 1
            terms(7) = [ -1/2^20W^0 ]
            row(11, 24, 0) = 24
            take(7, 11) = 1
            terms(7) = [ -24/2^0W^0 ]
            take(7, 0) = 0
            terms(7) = [ ]
            take(8, 0) = -1
            take(-1, 0) = -1
            take(0, 12) = -1
            take(0, -1) = -1
            take(MAX, 0) = -1
            take(0, MIN) = -1
            """);
    }

    private static void near() {
        SCRIPT.run("NO: it has a TERM above EXPONENT 0", """
            number(11, 3, 1) = 3
            term(7, 1, 1, 20) = 1
            near(11, 7) = -2
            term(7, 0, 5, 0) = 2
            near(11, 7) = -2
            term(7, 1, 0, 0) = 1
            term(7, 6, -1, 0) = 2
            near(11, 7) = -2
            worth(11) = 3/2^1
            term(7, 6, 0, 0) = 1
            near(11, 7) = 5
            worth(11) = 5/2^0
            """);
        SCRIPT.run("TERMS below count for nothing", """
            number(0, 3, 1) = 3
            term(0, -1, 1000000000, 0) = 1
            term(0, -6, -1, 0) = 2
            near(0, 0) = 0
            signs(0) =
            term(0, 0, -3, 1) = 3
            near(0, 0) = 3
            worth(0) = -3/2^1
            near(0, 7) = 0
            """);
        SCRIPT.run("FAR", """
            number(0, 3, 1) = 3
            term(0, 0, 25, 0) = 1
            near(0, 0) = -3
            term(0, 0, -1000000000, 0) = 1
            near(0, 0) = -3
            term(0, 0, 999999999, 20) = 1
            near(0, 0) = -3
            term(0, 0, 4194305, 20) = 1
            near(0, 0) = -3
            worth(0) = 3/2^1
            term(0, 0, 4194303, 20) = 1
            near(0, 0) = 24
            worth(0) = 4194303/2^20
            term(0, 0, -24, 0) = 1
            near(0, 0) = 24
            worth(0) = -24/2^0
            near(12, 0) = -1
            near(-1, 0) = -1
            near(0, 8) = -1
            near(0, -1) = -1
            near(MIN, 0) = -1
            near(0, MAX) = -1
            """);
    }
}
