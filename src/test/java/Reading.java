/** Reads an object through its face alone. */
final class Reading {
    private static final int NO_TERM = -1000000004;
    private static final int MOST_SIGNS = 24;
    private static final int MOST_TERMS = 13;

    private Reading() {
    }

    // The bounds are one beyond the document's, so that a wrong object is told as wrong and the reading ends all the same.

    static String row(BornNumbers x, int s) {
        StringBuilder text = new StringBuilder();
        int day = x.at(s, -1);
        for (int i = 0; i < day && i <= MOST_SIGNS; i++) {
            int sign = x.at(s, i);
            text.append(sign == 1 ? '+' : sign == 0 ? '-' : '?');
        }
        return text.toString();
    }

    static String value(BornNumbers x, int s) {
        return x.value(s, 0) + "/2^" + x.value(s, 1);
    }

    static String sum(BornNumbers x, int z) {
        StringBuilder text = new StringBuilder("[");
        for (int i = 0; i <= MOST_TERMS && x.told(z, i, 0) != NO_TERM; i++) {
            text.append(' ').append(x.told(z, i, 1)).append("/2^").append(x.told(z, i, 2));
            text.append("W^").append(x.told(z, i, 0));
        }
        return text.append(" ]").toString();
    }

    static String all(BornNumbers x) {
        StringBuilder text = new StringBuilder();
        for (int s = 0; s < 12; s++) {
            text.append(value(x, s)).append(' ');
        }
        for (int z = 0; z < 8; z++) {
            text.append(sum(x, z)).append(' ');
        }
        return text.append(x.pair(0)).append(' ').append(x.pair(1)).toString();
    }
}
