import java.math.BigDecimal;
import java.util.ArrayList;
import java.util.List;

/** All rows up to a small day, one by one: what the document says of them is counted and looked up, not reckoned. */
public final class SmallDaysTest {
    private static final int DAY = 6;
    private static final Check CHECK = new Check("SmallDaysTest");

    public static void main(String[] args) {
        List<String> rows = allRows(DAY);
        for (int i = 0; i < rows.size(); i++) {
            one(rows, i);
        }
        for (int day = 0; day <= DAY; day++) {
            born(day);
        }
        CHECK.end();
    }

    /** In the order of their values. */
    private static List<String> allRows(int day) {
        List<String> rows = new ArrayList<>();
        for (int n = 0; n <= day; n++) {
            for (int bits = 0; bits < 1 << n; bits++) {
                rows.add(Model.signsOf(n, bits));
            }
        }
        rows.sort((a, b) -> Model.worth(a).compareTo(Model.worth(b)));
        return rows;
    }

    private static void hold(BornNumbers x, int s, String row) {
        int bits = 0;
        for (int i = 0; i < row.length(); i++) {
            bits |= row.charAt(i) == '+' ? 1 << i : 0;
        }
        CHECK.due("row of " + row, x.row(s, row.length(), bits), row.length());
    }

    private static void one(List<String> rows, int i) {
        String low = rows.get(i);
        BornNumbers x = new BornNumbers();
        hold(x, 0, low);
        CHECK.due("value of " + low, Model.fraction(x.value(0, 0), x.value(0, 1)).compareTo(Model.worth(low)), 0);
        CHECK.due("number of " + low, x.number(1, x.value(0, 0), x.value(0, 1)), low.length());
        CHECK.same("number of " + low, Reading.row(x, 1), low);
        sides(x, low);
        for (int j = i + 1; j < rows.size(); j++) {
            BornNumbers y = j % 8 == 0 ? new BornNumbers() : x;
            hold(y, 0, low);
            x = y;
            two(x, rows, i, j);
        }
    }

    /** A row is what its left and its right are cut to. */
    private static void sides(BornNumbers x, String row) {
        int left = x.side(2, 0, 0) >= 0 ? 4 : 0;
        int right = x.side(3, 0, 1) >= 0 ? 8 : 0;
        CHECK.due("a left of " + row, left != 0 ? 1 : 0, row.contains("+") ? 1 : 0);
        CHECK.due("a right of " + row, right != 0 ? 1 : 0, row.contains("-") ? 1 : 0);
        CHECK.due("cut to " + row, x.cut(4, left, right), row.length());
        CHECK.due("cut to " + row, x.against(4, 0), 0);
    }

    private static void two(BornNumbers x, List<String> rows, int i, int j) {
        String name = rows.get(i) + " and " + rows.get(j);
        hold(x, 1, rows.get(j));
        CHECK.due("between " + name, x.between(0, 1, DAY), j - i - 1);
        CHECK.due("against " + name, x.against(0, 1), -1);
        int[] byDay = new int[DAY + 1];
        String oldest = null;
        for (String row : rows.subList(i + 1, j)) {
            byDay[row.length()]++;
            oldest = oldest == null || row.length() < oldest.length() ? row : oldest;
        }
        int count = 0;
        for (int day = 0; day < DAY; day++) {
            count += byDay[day];
            CHECK.due("between " + name + " up to " + day, x.between(0, 1, day), count);
        }
        int longer = Math.max(rows.get(i).length(), rows.get(j).length()) + 1;
        CHECK.due("cut " + name, x.cut(5, 1, 2), oldest == null ? longer : oldest.length());
        if (oldest != null) {
            CHECK.same("cut " + name, Reading.row(x, 5), oldest);
        }
    }

    private static void born(int day) {
        BornNumbers x = new BornNumbers();
        BigDecimal last = null;
        for (int i = 0; i < 1 << day; i++) {
            CHECK.due("born(0, " + day + ", " + i + ")", x.born(0, day, i), day);
            CHECK.due("its day", x.at(0, -1), day);
            BigDecimal value = Model.fraction(x.value(0, 0), x.value(0, 1));
            CHECK.due("least first", last == null || last.compareTo(value) < 0 ? 1 : 0, 1);
            last = value;
        }
    }
}
