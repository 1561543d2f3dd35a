/** A new object for each thing that is tested, and what is due of it, told in texts and rows instead of numbers. */
abstract class Bench {
    static final int BAD = -1, NOT = -2, FULL = -3;
    static final int LEAST = Integer.MIN_VALUE, MOST = Integer.MAX_VALUE;
    static final int ALL_KINDS = 63;
    /** No place has one of these numbers. */
    static final int[] NO_PLACES = {-1, 10, LEAST, MOST};

    final Check check = new Check();
    ShownPatterns x = new ShownPatterns();
    private String label = "";

    /** The promise and what it says there, told with each wrong answer; from here on with a new object. */
    void begin(String promise) {
        label = promise;
        renew();
    }

    /** An object is used for at most 512 calls: long tests take a new one in between. */
    void renew() {
        x = new ShownPatterns();
    }

    void due(String call, long got, long want) {
        check.due(label + ": " + call, got, want);
    }

    void due(String call, boolean is) {
        check.due(label + ": " + call, is ? 1 : 0, 1);
    }

    void feed(String text) {
        for (int at = 0; at < text.length(); at += 4) {
            int n = Math.min(4, text.length() - at);
            int v = 0;
            for (int i = 0; i < n; i++) {
                v |= text.charAt(at + i) << 8 * i;
            }
            x.feed(n, v);
        }
    }

    int read(int place, String text) {
        feed(text);
        return x.read(place);
    }

    String said(int place) {
        StringBuilder said = new StringBuilder();
        int length = x.say(place, -1);
        for (int at = 0; at < length; at++) {
            said.append((char) x.say(place, at));
        }
        return said.toString();
    }

    void dueSaid(int place, String want) {
        check.due(label + ": said of place " + place, said(place), want);
    }

    static int number(String row) {
        return Rows.toNumber(row);
    }

    static int[] numbers(String... rows) {
        int[] numbers = new int[rows.length];
        for (int i = 0; i < rows.length; i++) {
            numbers[i] = number(rows[i]);
        }
        return numbers;
    }

    /** A showing of a row that shall be fit, or shall not. */
    int shall(String row) {
        return x.show(number(row), 1, 0, 1);
    }

    int shallNot(String row) {
        return x.show(number(row), 0, 0, 1);
    }
}
