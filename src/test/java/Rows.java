import java.util.ArrayList;
import java.util.List;

/** Rows as texts of a, b and c, and their numbers. */
final class Rows {
    private Rows() {
    }

    /** All rows of a length, in their order. */
    static List<String> of(int length) {
        List<String> rows = new ArrayList<>(List.of(""));
        for (int i = 0; i < length; i++) {
            List<String> longer = new ArrayList<>();
            for (String row : rows) {
                longer.addAll(List.of(row + "a", row + "b", row + "c"));
            }
            rows = longer;
        }
        return rows;
    }

    static List<String> upTo(int most) {
        List<String> rows = new ArrayList<>();
        for (int length = 0; length <= most; length++) {
            rows.addAll(of(length));
        }
        return rows;
    }

    static int toNumber(String row) {
        return Integer.parseInt("1" + row.replace('a', '0').replace('b', '1').replace('c', '2'), 3);
    }

    /** The row of a number, or null. */
    static String toRow(int number) {
        String digits = number > 0 ? Integer.toString(number, 3) : "";
        if (!digits.startsWith("1") || digits.length() > 13) {
            return null;
        }
        return digits.substring(1).replace('0', 'a').replace('1', 'b').replace('2', 'c');
    }
}
