/** The document sentence by sentence, promises 1 to 13: each one that names a boundary has a run of its own here. */
public final class RowSentencesTest {
    private static final int FAR = -3;
    private static final Check CHECK = new Check("RowSentencesTest");
    private static final Script SCRIPT = new Script(CHECK);

    public static void main(String[] args) {
        newObject();
        lastCall();
        rowTerms();
        row();
        number();
        numberOfEachWhole();
        at();
        value();
        against();
        workEdges();
        workFar();
        side();
        cut();
        cutFar();
        pair();
        born();
        between();
        betweenOfAnyDay();
        wins();
        winsTooMany();
        CHECK.end();
    }

    private static void newObject() {
        SCRIPT.run("REGISTERS 0 to 11 hold ROWS (empty at first)", """
            at(0, -1) = 0
            at(11, -1) = 0
            signs(11) =
            worth(0) = 0/2^0
            worth(11) = 0/2^0
            at(12, -1) = -1
            at(-1, -1) = -1
            """);
        SCRIPT.run("all SUMS are 0", """
            terms(0) = [ ]
            terms(7) = [ ]
            order(0, 7) = 0
            told(8, 0, 0) = -1000000001
            told(-1, 0, 0) = -1000000001
            """);
        SCRIPT.run("of the latest cut() that was NO: there was none yet", """
            pairs() = -4 -4
            """);
    }

    private static void lastCall() {
        BornNumbers x = new BornNumbers();
        for (int i = 0; i < 170; i++) {
            x.number(i % 12, 1 + i, 3);
            x.term(i % 8, i % 13 - 6, 1 + i, 2);
            x.sum(i % 8, i % 3, (i + 1) % 8, (i + 2) % 8);
        }
        CHECK.due("the 511th call", x.number(3, 23, 0), 23);
        CHECK.due("the 512th call", x.at(3, 22), 1);
    }

    private static void rowTerms() {
        SCRIPT.run("No SIGNS: 0", """
            row(0, 1, 1) = 1
            row(0, 0, 0) = 0
            worth(0) = 0/2^0
            """);
        SCRIPT.run("each SIGN behind counts half of the one ahead of it, the first one a half", """
            row(0, 2, 1) = 2
            worth(0) = 1/2^1
            row(0, 2, 2) = 2
            worth(0) = -1/2^1
            row(0, 3, 5) = 3
            worth(0) = 3/2^2
            row(0, 4, 3) = 4
            worth(0) = 5/2^2
            row(0, 4, 12) = 4
            worth(0) = -5/2^2
            """);
        SCRIPT.run("two ROWS with one VALUE are the same", """
            row(0, 3, 5) = 3
            number(1, 786432, 20) = 3
            against(0, 1) = 0
            signs(1) = +-+
            """);
    }

    private static void row() {
        SCRIPT.run("REGISTER s becomes a ROW of n SIGNS (0 to 24)", """
            row(0, 24, 0) = 24
            signs(0) = ------------------------
            row(11, 24, 11184810) = 24
            signs(11) = -+-+-+-+-+-+-+-+-+-+-+-+
            row(11, 0, 0) = 0
            signs(11) =
            row(0, 25, 0) = -1
            row(0, -1, 0) = -1
            row(0, 32, 0) = -1
            row(0, MIN, 0) = -1
            row(0, MAX, 0) = -1
            worth(0) = -24/2^0
            """);
        SCRIPT.run("BAD (other bits, too)", """
            row(0, 24, 16777215) = 24
            row(0, 24, 16777216) = -1
            row(0, 24, MIN) = -1
            row(0, 24, MAX) = -1
            row(0, 24, -1) = -1
            row(0, 23, 8388608) = -1
            row(0, 1, 2) = -1
            row(0, 0, 1) = -1
            row(0, 0, MIN) = -1
            worth(0) = 24/2^0
            row(0, 1, 1) = 1
            signs(0) = +
            """);
    }

    private static void number() {
        SCRIPT.run("a from -1000000000 to 1000000000, k 0 to 20", """
            number(0, 7, 0) = 7
            number(0, 1000000000, 0) = -3
            number(0, -1000000000, 0) = -3
            number(0, 1000000000, 20) = -3
            number(0, 1000000001, 0) = -1
            number(0, -1000000001, 0) = -1
            number(0, MAX, 0) = -1
            number(0, MIN, 0) = -1
            number(0, MIN, 20) = -1
            number(0, 1, 21) = -1
            number(0, 1, -1) = -1
            number(0, 1, MAX) = -1
            number(0, 1, MIN) = -1
            number(0, 0, 21) = -1
            number(0, 0, -1) = -1
            worth(0) = 7/2^0
            number(0, 0, 20) = 0
            worth(0) = 0/2^0
            number(0, 1, 20) = 21
            worth(0) = 1/2^20
            number(0, -1, 20) = 21
            signs(0) = -++++++++++++++++++++
            number(0, 25165824, 20) = 24
            worth(0) = 24/2^0
            """);
    }

    /** "FAR: what is to be held would have more than 24 SIGNS": the whole part, one more, and one for each half. */
    private static void numberOfEachWhole() {
        for (int whole = 0; whole <= 26; whole++) {
            BornNumbers x = new BornNumbers();
            for (int k = 0; k <= 20; k++) {
                int a = (whole << k) + (k == 0 ? 0 : 1);
                int day = k == 0 ? whole : whole + 1 + k;
                String name = a + " by 2 to the " + k;
                CHECK.due(name, x.number(0, a, k), day > 24 ? FAR : day);
                CHECK.due("less than 0: " + name, x.number(1, -a, k), day > 24 ? FAR : day);
                if (day <= 24) {
                    CHECK.same(name, Reading.value(x, 0), a + "/2^" + k);
                    CHECK.same("less than 0: " + name, Reading.value(x, 1), -a + "/2^" + k);
                }
            }
        }
    }

    private static void at() {
        SCRIPT.run("SIGN i of a ROW: 1 or 0 (-); NONE behind. i = -1: its DAY", """
            at(0, -1) = 0
            at(0, 0) = -4
            at(0, MAX) = -4
            at(0, -2) = -1
            at(0, MIN) = -1
            row(0, 24, 8388609) = 24
            at(0, -1) = 24
            at(0, 0) = 1
            at(0, 1) = 0
            at(0, 22) = 0
            at(0, 23) = 1
            at(0, 24) = -4
            at(0, 25) = -4
            at(0, 31) = -4
            at(0, 32) = -4
            at(0, MAX) = -4
            at(0, -2) = -1
            row(11, 1, 0) = 1
            at(11, 0) = 0
            at(11, 1) = -4
            at(12, 0) = -1
            """);
    }

    private static void value() {
        SCRIPT.run("its VALUE: above (what = 0), the k below (1), k least", """
            value(0, 0) = 0
            value(0, 1) = 0
            row(0, 24, 16777215) = 24
            value(0, 0) = 24
            value(0, 1) = 0
            row(0, 24, 0) = 24
            value(0, 0) = -24
            value(0, 1) = 0
            row(0, 24, 16777213) = 24
            value(0, 0) = 8388607
            value(0, 1) = 23
            row(0, 24, 2) = 24
            value(0, 0) = -8388607
            value(0, 1) = 23
            row(0, 24, 16777211) = 24
            value(0, 0) = 8388607
            value(0, 1) = 22
            row(0, 23, 1) = 23
            value(0, 0) = 1
            value(0, 1) = 22
            """);
        SCRIPT.run("BAD answers -1000000000", """
            value(0, 2) = -1000000000
            value(0, -1) = -1000000000
            value(0, MAX) = -1000000000
            value(0, MIN) = -1000000000
            value(12, 0) = -1000000000
            value(-1, 1) = -1000000000
            value(MAX, 0) = -1000000000
            value(MIN, 0) = -1000000000
            value(11, 0) = 0
            """);
    }

    private static void against() {
        SCRIPT.run("ROW s is LESS than t, the same, greater, by the least that ROWS can differ", """
            row(0, 24, 1) = 24
            row(1, 24, 16777214) = 24
            against(0, 2) = 1
            against(2, 0) = -1
            against(1, 2) = -1
            against(2, 1) = 1
            against(2, 3) = 0
            against(0, 0) = 0
            row(4, 24, 16777215) = 24
            row(5, 24, 0) = 24
            against(4, 5) = 1
            against(5, 4) = -1
            row(6, 23, 8388607) = 23
            row(7, 24, 8388607) = 24
            against(6, 7) = 1
            against(7, 4) = -1
            """);
        SCRIPT.run("BAD answers -9", """
            against(11, 11) = 0
            against(12, 0) = -9
            against(0, 12) = -9
            against(-1, 0) = -9
            against(0, -1) = -9
            against(MIN, 0) = -9
            against(0, MAX) = -9
            against(12, 12) = -9
            """);
    }

    private static void workEdges() {
        SCRIPT.run("t and u, t less u, t times u, t turned, of the empty ROW and of ROWS of 24 SIGNS", """
            number(0, 24, 0) = 24
            number(1, -24, 0) = 24
            row(2, 24, 1) = 24
            work(5, 0, 3, 3) = 0
            work(5, 1, 3, 3) = 0
            work(5, 2, 3, 3) = 0
            work(5, 3, 3, 3) = 0
            work(5, 0, 0, 3) = 24
            worth(5) = 24/2^0
            work(5, 1, 3, 0) = 24
            worth(5) = -24/2^0
            work(5, 2, 0, 3) = 0
            work(5, 0, 0, 1) = 0
            work(5, 3, 2, 12) = 24
            worth(5) = -1/2^23
            work(5, 3, 5, MIN) = 24
            worth(5) = 1/2^23
            work(5, 3, 12, 0) = -1
            work(5, 3, -1, 0) = -1
            worth(5) = 1/2^23
            """);
        SCRIPT.run("REGISTER s may be t and u", """
            number(0, 3, 1) = 3
            work(0, 2, 0, 0) = 5
            worth(0) = 9/2^2
            work(0, 0, 0, 0) = 6
            worth(0) = 9/2^1
            work(0, 3, 0, 0) = 6
            worth(0) = -9/2^1
            work(0, 1, 0, 0) = 0
            """);
    }

    private static void workFar() {
        SCRIPT.run("FAR: 24 SIGNS are held, 25 are not", """
            number(0, 23, 0) = 23
            number(1, 1, 0) = 1
            number(2, 2, 0) = 2
            work(5, 0, 0, 1) = 24
            work(5, 0, 0, 2) = -3
            work(6, 3, 0, 0) = 23
            work(5, 1, 6, 1) = 24
            worth(5) = -24/2^0
            work(5, 1, 6, 2) = -3
            worth(5) = -24/2^0
            """);
        SCRIPT.run("FAR of a product, by its whole part and by its k", """
            number(0, 4, 0) = 4
            number(1, 6, 0) = 6
            number(2, 5, 0) = 5
            work(5, 2, 0, 1) = 24
            work(5, 2, 2, 2) = -3
            worth(5) = 24/2^0
            number(3, 1, 12) = 13
            number(4, 1, 11) = 12
            work(6, 2, 3, 4) = 24
            worth(6) = 1/2^23
            work(6, 2, 3, 3) = -3
            number(4, -1, 11) = 12
            work(6, 2, 3, 4) = 24
            worth(6) = -1/2^23
            work(7, 2, 6, 6) = -3
            number(7, 2, 0) = 2
            work(6, 2, 6, 7) = 23
            worth(6) = -1/2^22
            """);
        SCRIPT.run("FAR of a sum, though both have few halves", """
            row(0, 24, 1) = 24
            number(1, 1, 0) = 1
            work(2, 1, 1, 0) = 24
            worth(2) = 8388607/2^23
            work(2, 0, 1, 0) = -3
            worth(2) = 8388607/2^23
            """);
    }

    private static void side() {
        SCRIPT.run("its longest beginning that is LESS, that is greater; NO: it has none", """
            side(1, 0, 0) = -2
            side(1, 0, 1) = -2
            row(0, 1, 1) = 1
            side(1, 0, 1) = -2
            side(1, 0, 0) = 0
            signs(1) =
            row(0, 1, 0) = 1
            side(1, 0, 0) = -2
            side(1, 0, 1) = 0
            row(0, 24, 16777215) = 24
            side(1, 0, 1) = -2
            side(1, 0, 0) = 23
            worth(1) = 23/2^0
            row(0, 24, 0) = 24
            side(1, 0, 0) = -2
            worth(1) = 23/2^0
            side(1, 0, 1) = 23
            worth(1) = -23/2^0
            row(0, 24, 1) = 24
            side(1, 0, 0) = 0
            side(1, 0, 1) = 23
            worth(1) = 1/2^22
            row(0, 24, 8388608) = 24
            side(1, 0, 0) = 23
            side(1, 0, 1) = 22
            worth(1) = -22/2^0
            side(0, 0, 0) = 23
            worth(0) = -23/2^0
            side(11, 11, 2) = -1
            side(11, 11, -1) = -1
            side(11, 11, MAX) = -1
            side(11, 11, MIN) = -1
            """);
    }

    private static void cut() {
        SCRIPT.run("the SIMPLEST ROW that is greater than all of left and less than all of right", """
            number(0, 24, 0) = 24
            cut(0, 0, 0) = 0
            signs(0) =
            cut(1, 4095, 0) = 1
            signs(1) = +
            cut(1, 4095, 0) = 2
            signs(1) = ++
            cut(2, 0, 4095) = 1
            signs(2) = -
            cut(11, 1<<2, 1<<1) = 0
            cut(11, 1<<11, 1<<1) = 1
            cut(11, 1<<11, 1<<1) = 3
            worth(11) = 3/2^1
            cut(10, 1<<2, 1<<0) = 2
            worth(10) = -1/2^1
            """);
        SCRIPT.run("BAD: bits of others", """
            cut(0, 4096, 0) = -1
            cut(0, 0, 4096) = -1
            cut(0, -1, 0) = -1
            cut(0, 0, -1) = -1
            cut(0, MIN, 0) = -1
            cut(0, 0, MIN) = -1
            cut(0, MAX, 0) = -1
            cut(0, 0, MAX) = -1
            cut(0, 1<<11, 0) = 1
            cut(0, 0, 1<<11) = 1
            signs(0) = -
            """);
        SCRIPT.run("NO: one of left is not less than one of right", """
            cut(0, 1<<1, 1<<2) = -2
            cut(0, 1<<1, 1<<1) = -2
            row(3, 24, 1) = 24
            cut(0, 1<<3, 1<<1) = -2
            row(3, 23, 1) = 23
            cut(0, 1<<1, 1<<3) = 24
            worth(0) = 1/2^23
            """);
    }

    private static void cutFar() {
        SCRIPT.run("FAR: the SIMPLEST would have more than 24 SIGNS", """
            number(0, 23, 0) = 23
            cut(5, 1<<0, 0) = 24
            worth(5) = 24/2^0
            cut(6, 1<<5, 0) = -3
            number(1, -23, 0) = 23
            cut(6, 0, 1<<1) = 24
            worth(6) = -24/2^0
            cut(5, 0, 1<<6) = -3
            worth(5) = 24/2^0
            cut(7, 1<<0, 1<<5) = -3
            cut(7, 1<<6, 1<<1) = -3
            number(2, 22, 0) = 22
            cut(7, 1<<2, 1<<0) = 24
            worth(7) = 45/2^1
            row(3, 23, 1) = 23
            cut(7, 1<<4, 1<<3) = 24
            worth(7) = 1/2^23
            row(3, 24, 1) = 24
            cut(7, 1<<4, 1<<3) = -3
            worth(7) = 1/2^23
            pairs() = -4 -4
            """);
    }

    private static void pair() {
        SCRIPT.run("the least of left, then of right", """
            number(1, 5, 0) = 5
            number(2, 9, 0) = 9
            number(3, 7, 0) = 7
            number(4, 4, 0) = 4
            cut(0, 1<<1|1<<2|1<<3, 1<<3|1<<4) = -2
            pairs() = 1 4
            cut(0, 1<<0|1<<2|1<<3, 1<<3|1<<4) = -2
            pairs() = 2 3
            cut(0, 4095, 4095) = -2
            pairs() = 0 0
            cut(0, 1<<10|1<<11, 1<<10|1<<11) = -2
            pairs() = 10 10
            cut(0, 1<<11, 1<<11) = -2
            pairs() = 11 11
            """);
        SCRIPT.run("of the latest cut() that was NO", """
            number(0, 1, 0) = 1
            number(2, 24, 0) = 24
            cut(5, 1<<0, 1<<1) = -2
            pairs() = 0 1
            cut(5, 1<<1, 1<<0) = 2
            pairs() = 0 1
            cut(5, 1<<2, 0) = -3
            pairs() = 0 1
            cut(12, 1<<2, 1<<2) = -1
            pairs() = 0 1
            number(0, -1, 0) = 1
            pairs() = 0 1
            cut(5, 1<<2, 1<<2) = -2
            pairs() = 2 2
            pair(2) = -1
            pair(-1) = -1
            pair(MAX) = -1
            pair(MIN) = -1
            """);
    }

    private static void born() {
        SCRIPT.run("the i-th (from 0) of all ROWS of a DAY (0 to 20), the least first", """
            born(0, 0, 0) = 0
            born(0, 0, 1) = -1
            born(0, 0, -1) = -1
            born(0, 1, 0) = 1
            signs(0) = -
            born(0, 1, 1) = 1
            signs(0) = +
            born(0, 1, 2) = -1
            born(0, 19, 524287) = 19
            worth(0) = 19/2^0
            born(0, 19, 524288) = -1
            born(0, 20, 0) = 20
            worth(0) = -20/2^0
            born(0, 20, 524287) = 20
            worth(0) = -1/2^19
            born(0, 20, 524288) = 20
            worth(0) = 1/2^19
            born(0, 20, 1048575) = 20
            worth(0) = 20/2^0
            born(0, 20, 1048576) = -1
            born(0, 20, -1) = -1
            born(0, 20, MIN) = -1
            born(0, 20, MAX) = -1
            born(0, 21, 0) = -1
            born(0, -1, 0) = -1
            born(0, 32, 0) = -1
            born(0, MIN, 0) = -1
            born(0, MAX, 0) = -1
            worth(0) = 20/2^0
            """);
    }

    private static void between() {
        SCRIPT.run("how many ROWS of a DAY (0 to 20) at most lie above s and below t", """
            number(0, -1, 0) = 1
            number(1, 1, 0) = 1
            between(0, 1, 0) = 1
            between(0, 1, 1) = 1
            between(0, 1, 2) = 3
            between(0, 1, 20) = 1048575
            between(0, 2, 0) = 0
            between(0, 2, 1) = 0
            between(0, 2, 2) = 1
            between(2, 1, 20) = 524287
            number(3, -20, 0) = 20
            number(4, 20, 0) = 20
            between(3, 4, 20) = 2097149
            between(3, 4, 19) = 1048575
            between(3, 4, 0) = 1
            number(5, -21, 0) = 21
            number(6, 21, 0) = 21
            between(5, 6, 20) = 2097151
            between(0, 1, 21) = -1
            between(0, 1, -1) = -1
            between(0, 1, MAX) = -1
            between(0, 1, MIN) = -1
            """);
        SCRIPT.run("NO: s is not less than t", """
            number(1, 1, 0) = 1
            between(0, 2, 20) = -2
            between(0, 0, 20) = -2
            between(1, 0, 20) = -2
            between(1, 1, 0) = -2
            between(0, 1, 0) = 0
            row(3, 24, 1) = 24
            between(3, 0, 20) = -2
            between(0, 3, 20) = 0
            """);
    }

    private static void betweenOfAnyDay() {
        SCRIPT.run("of any DAY up to that, though s and t may be of a later one", """
            row(0, 24, 16777214) = 24
            row(1, 24, 1) = 24
            between(0, 1, 0) = 1
            between(0, 1, 20) = 1
            number(2, 1, 0) = 1
            between(1, 2, 0) = 0
            between(1, 2, 1) = 0
            between(1, 2, 2) = 1
            between(1, 2, 20) = 524287
            number(3, 1048575, 20) = 21
            between(3, 2, 20) = 0
            number(4, 524287, 19) = 20
            between(4, 2, 20) = 0
            number(5, 262143, 18) = 19
            between(5, 2, 20) = 1
            between(5, 2, 19) = 0
            between(5, 3, 20) = 1
            between(4, 3, 20) = 0
            """);
    }

    private static void wins() {
        SCRIPT.run("who can't move has lost", """
            wins(0, 0) = 0
            wins(0, 1) = 0
            wins(1<<0, 0) = 0
            wins(1<<0, 1) = 0
            row(0, 1, 1) = 1
            wins(1<<0, 0) = 1
            wins(1<<0, 1) = 0
            row(0, 1, 0) = 1
            wins(1<<0, 0) = 0
            wins(1<<0, 1) = 1
            row(11, 1, 1) = 1
            wins(1<<0|1<<11, 0) = 0
            wins(1<<0|1<<11, 1) = 0
            row(11, 2, 1) = 2
            wins(1<<0|1<<11, 0) = 0
            wins(1<<0|1<<11, 1) = 1
            row(10, 2, 1) = 2
            wins(1<<0|1<<10|1<<11, 0) = 0
            wins(1<<0|1<<10|1<<11, 1) = 0
            """);
        SCRIPT.run("by the least that 14 SIGNS can differ", """
            row(0, 13, 1) = 13
            row(1, 1, 0) = 1
            row(2, 14, 1) = 14
            row(3, 14, 16382) = 14
            wins(1<<2, 0) = 1
            wins(1<<2, 1) = 0
            wins(1<<3, 0) = 0
            wins(1<<3, 1) = 1
            wins(1<<0|1<<1, 0) = 0
            wins(1<<0|1<<1, 1) = 1
            """);
    }

    private static void winsTooMany() {
        SCRIPT.run("4 at most, 14 SIGNS together at most", """
            row(0, 14, 16383) = 14
            wins(1<<0, 0) = 1
            wins(1<<0, 1) = 0
            wins(1<<0|1<<1|1<<2|1<<3, 0) = 1
            wins(1<<0|1<<1|1<<2|1<<3|1<<4, 0) = -2
            wins(1<<0|1<<1|1<<2|1<<3|1<<4, 1) = -2
            wins(1<<5|1<<6|1<<7|1<<11, 0) = 0
            wins(1<<5|1<<6|1<<7|1<<8|1<<11, 0) = -2
            wins(4095, 0) = -2
            row(0, 15, 0) = 15
            wins(1<<0, 0) = -2
            wins(1<<0, 1) = -2
            row(0, 4, 15) = 4
            row(1, 4, 0) = 4
            row(2, 3, 5) = 3
            row(3, 3, 2) = 3
            wins(1<<0|1<<1|1<<2|1<<3, 0) = 0
            wins(1<<0|1<<1|1<<2|1<<3, 1) = 0
            row(3, 4, 2) = 4
            wins(1<<0|1<<1|1<<2|1<<3, 0) = -2
            row(3, 24, 2) = 24
            wins(1<<3, 1) = -2
            """);
        SCRIPT.run("BAD", """
            wins(4096, 0) = -1
            wins(-1, 0) = -1
            wins(MIN, 0) = -1
            wins(MAX, 0) = -1
            wins(0, 2) = -1
            wins(0, -1) = -1
            wins(0, MIN) = -1
            wins(0, MAX) = -1
            wins(1<<11, 1) = 0
            """);
    }
}
