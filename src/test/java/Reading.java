/** Reads a whole object through its face alone, within the calls that the document leaves to an object. */
final class Reading {
    private static final int NO_TERM = -1000000004;

    private Reading() {
    }

    static String row(BornNumbers x, int s) {
        StringBuilder text = new StringBuilder();
        for (int i = 0; i < x.at(s, -1); i++) {
            text.append(x.at(s, i) == 1 ? '+' : '-');
        }
        return text.toString();
    }

    static String value(BornNumbers x, int s) {
        return x.value(s, 0) + "/2^" + x.value(s, 1);
    }

    static String sum(BornNumbers x, int z) {
        StringBuilder text = new StringBuilder("[");
        for (int i = 0; x.told(z, i, 0) != NO_TERM; i++) {
            text.append(' ').append(x.told(z, i, 1)).append("/2^").append(x.told(z, i, 2));
            text.append("W^").append(x.told(z, i, 0));
        }
        return text.append(" ]").toString();
    }

    static String all(BornNumbers x) {
        StringBuilder text = new StringBuilder();
        for (int s = 0; s < 12; s++) {
            text.append(value(x, s)).append(' ');
        }
        for (int z = 0; z < 8; z++) {
            text.append(sum(x, z)).append(' ');
        }
        return text.append(x.pair(0)).append(' ').append(x.pair(1)).toString();
    }
}
