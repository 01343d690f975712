/** Promise 13: wins. */
public final class StalksTest {
    private static final int BAD = -1;
    private static final int NO = -2;
    private static final Check CHECK = new Check("StalksTest");

    public static void main(String[] args) {
        ordinary();
        edges();
        playedOut();
        CHECK.end();
    }

    private static void ordinary() {
        BornNumbers x = new BornNumbers();
        x.number(0, 1, 1);
        x.number(1, 1, 1);
        x.number(2, -1, 0);
        x.number(3, -1, 2);
        wins(x, 0b0011, 1, 0);
        wins(x, 0b0111, 0, 0);
        wins(x, 0b1111, 0, 1);
        wins(x, 0b1001, 1, 0);
        wins(x, 0b0101, 0, 1);
        wins(x, 0, 0, 0);
        wins(x, 1 << 11, 0, 0);
    }

    private static void wins(BornNumbers x, int stalks, int plus, int minus) {
        CHECK.due("wins(" + stalks + ", 0)", x.wins(stalks, 0), plus);
        CHECK.due("wins(" + stalks + ", 1)", x.wins(stalks, 1), minus);
    }

    private static void edges() {
        BornNumbers x = new BornNumbers();
        x.number(0, 7, 0);
        x.number(1, -7, 0);
        x.number(2, 1, 0);
        x.row(7, 14, 1);
        wins(x, 0b11, 0, 0);
        wins(x, 1 << 7, 1, 0);
        wins(x, 0b111000000001, 1, 0);
        CHECK.due("fifteen signs", x.wins(0b111, 0), NO);
        CHECK.due("five empty stalks", x.wins(0b111100001000, 0), NO);
        CHECK.due("four empty stalks", x.wins(0b111100000000, 0), 0);
        CHECK.due("all registers", x.wins(4095, 1), NO);
        CHECK.due("wins(4096, 0)", x.wins(4096, 0), BAD);
        CHECK.due("wins(-1, 0)", x.wins(-1, 0), BAD);
        CHECK.due("wins(1, 2)", x.wins(1, 2), BAD);
        CHECK.due("wins(1, -1)", x.wins(1, -1), BAD);
        CHECK.due("wins(4095, 2)", x.wins(4095, 2), BAD);
    }

    /** All pairs of stalks of at most four signs, by the moves themselves. */
    private static void playedOut() {
        for (int first = 1; first < 32; first++) {
            BornNumbers x = new BornNumbers();
            String one = hold(x, 0, first);
            for (int second = 1; second < 32; second++) {
                String other = hold(x, 5, second);
                for (int who = 0; who < 2; who++) {
                    int due = Model.firstWins(new String[] {one, other}, who) ? 1 : 0;
                    CHECK.due(one + " and " + other + " for " + who, x.wins(33, who), due);
                }
            }
        }
    }

    /** The bits behind the leading 1 of a code are the signs of a stalk. */
    private static String hold(BornNumbers x, int s, int code) {
        int n = 31 - Integer.numberOfLeadingZeros(code);
        x.row(s, n, code - (1 << n));
        return Model.signsOf(n, code - (1 << n));
    }
}
