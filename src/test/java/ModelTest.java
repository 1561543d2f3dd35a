import java.util.Random;

/** Runs of chosen calls, from fixed seeds, on the class and on the model side by side. */
public final class ModelTest {
    private static final String SIGNS = "abc[]()|+?";
    private final Random random;
    private final ShownPatterns x = new ShownPatterns();
    private final Model m = new Model();
    private final Check check;
    private final String run;
    private int calls;

    private ModelTest(long seed, Check check) {
        random = new Random(seed);
        this.check = check;
        run = "seed " + seed + ": ";
    }

    private int upTo(int most) {
        return random.nextInt(most + 1);
    }

    /** Mostly 0 .. most, at times a number that is out of bounds. */
    private int about(int most) {
        return switch (upTo(40)) {
            case 0 -> -1;
            case 1 -> most + 1;
            case 2 -> random.nextInt();
            case 3 -> upTo(1) == 0 ? Integer.MIN_VALUE : Integer.MAX_VALUE;
            default -> upTo(most);
        };
    }

    private int place() {
        return about(9);
    }

    private int rowOf(int most) {
        int length = upTo(most);
        int row = 1;
        for (int i = 0; i < length; i++) {
            row = 3 * row + upTo(2);
        }
        return upTo(30) == 0 ? about(3 * row) : row;
    }

    private String text(int size) {
        if (size <= 1) {
            String set = (upTo(1) == 0 ? "a" : "") + (upTo(1) == 0 ? "b" : "") + (upTo(1) == 0 ? "c" : "");
            return upTo(2) > 0 || set.isEmpty() ? SIGNS.substring(upTo(2)).substring(0, 1) : "[" + set + "]";
        }
        int left = 1 + upTo(size - 2);
        return switch (upTo(6)) {
            case 0, 1 -> text(left) + text(size - left);
            case 2 -> text(left) + "|" + text(size - left);
            case 3 -> "(" + text(size - 1) + ")";
            case 4 -> "(" + text(left) + "|" + text(size - left) + ")" + (upTo(1) == 0 ? "+" : "");
            case 5 -> "(" + text(size - 1) + ")" + (upTo(1) == 0 ? "+" : "?");
            default -> text(size - 1) + (upTo(1) == 0 ? "+" : "?");
        };
    }

    private String spoiled(String text) {
        StringBuilder spoiled = new StringBuilder(text);
        int at = upTo(text.length());
        int way = upTo(2);
        if (way != 0 && at < text.length()) {
            spoiled.deleteCharAt(at);
        }
        if (way != 1) {
            spoiled.insert(at, upTo(9) == 0 ? (char) upTo(255) : SIGNS.charAt(upTo(9)));
        }
        return spoiled.toString();
    }

    private void due(String call, int got, int want) {
        calls++;
        check.due(run + "call " + calls + ", " + call, got, want);
    }

    private void feedText(String text) {
        for (int i = 0; i < text.length();) {
            int n = Math.min(1 + upTo(3), text.length() - i);
            int v = random.nextInt();
            for (int k = 0; k < n; k++) {
                v = v & ~(255 << 8 * k) | text.charAt(i + k) << 8 * k;
            }
            due("feed(" + n + ", " + v + ")", x.feed(n, v), m.feed(n, v));
            i += n;
        }
    }

    private void readText() {
        String text = text(1 + upTo(8));
        feedText(upTo(4) == 0 ? spoiled(text) : text);
        int place = place();
        due("read(" + place + ") of " + text, x.read(place), m.read(place));
        compareSaid(place);
    }

    private void compareSaid(int place) {
        int length = m.say(place, -1);
        due("say(" + place + ", -1)", x.say(place, -1), length);
        for (int at = 0; at <= length; at++) {
            due("say(" + place + ", " + at + ")", x.say(place, at), m.say(place, at));
        }
    }

    private void patternCall() {
        int place = place();
        int what = about(3);
        switch (upTo(5)) {
            case 0, 1 -> readText();
            case 2 -> {
                int cost = 2 + about(8);
                int i = about(cost > 8 ? 3200 : cost > 6 ? 420 : 70);
                due("nth(" + place + ", " + cost + ", " + i + ")", x.nth(place, cost, i), m.nth(place, cost, i));
                compareSaid(place);
            }
            case 3 -> due("about(" + place + ", " + what + ")", x.about(place, what), m.about(place, what));
            case 4 -> {
                if (upTo(3) == 0) {
                    due("drop(" + place + ")", x.drop(place), m.drop(place));
                } else {
                    due("count(" + what + ")", x.count(what), m.count(what));
                }
            }
            default -> {
                int n = about(4);
                int v = random.nextInt();
                due("feed(" + n + ", " + v + ")", x.feed(n, v), m.feed(n, v));
            }
        }
    }

    private void fittingCall() {
        int place = place();
        int other = place();
        int row = rowOf(12);
        int length = upTo(20) == 0 ? about(9) - 1 : upTo(5);
        switch (upTo(6)) {
            case 0 -> due("fits(" + place + ", " + row + ")", x.fits(place, row), m.fits(place, row));
            case 1 -> due("out(" + place + ", " + row + ")", x.out(place, row), m.out(place, row));
            case 2 -> due("many(" + place + ", " + length + ")", x.many(place, length), m.many(place, length));
            case 3 -> {
                int i = about(Math.max(0, m.many(place, length)));
                due("row(" + place + ", " + length + ", " + i + ")", x.row(place, length, i), m.row(place, length, i));
            }
            case 4 -> due("alike(" + place + ", " + other + ")", x.alike(place, other), m.alike(place, other));
            case 5 -> due("parted(" + place + ", " + other + ")", x.parted(place, other), m.parted(place, other));
            default -> due("inside(" + place + ", " + other + ")", x.inside(place, other), m.inside(place, other));
        }
    }

    private void showingCall() {
        int place = place();
        int showing = about(Math.max(0, m.count(1) - 1));
        int is = about(1);
        switch (upTo(6)) {
            case 0, 1 -> {
                int row = rowOf(upTo(4) == 0 ? 7 : 4);
                int said = about(3);
                int part = said == 2 ? 10 * upTo(3) + upTo(4) : about(20) == 5 ? 5 : 0;
                int price = about(12);
                String call = "show(" + row + ", " + said + ", " + part + ", " + price + ")";
                due(call, x.show(row, said, part, price), m.show(row, said, part, price));
            }
            case 2, 3 -> due("back(" + showing + ", " + is + ")", x.back(showing, is), m.back(showing, is));
            case 4 -> due("agrees(" + place + ", " + showing + ")", x.agrees(place, showing), m.agrees(place, showing));
            default -> due("paid(" + place + ")", x.paid(place), m.paid(place));
        }
    }

    private void searchCall() {
        int place = place();
        int kinds = upTo(2) == 0 ? about(63) : upTo(1) == 0 ? 63 : 63 & ~(1 << upTo(5));
        int cost = upTo(20) == 0 ? about(11) : 10 - upTo(upTo(8));
        String by = kinds + ", " + cost + ")";
        switch (upTo(8)) {
            case 0 -> due("find(" + place + ", " + by, x.find(place, kinds, cost), m.find(place, kinds, cost));
            case 1, 2, 3, 4 -> {
                due("next(" + place + ")", x.next(place), m.next(place));
                compareSaid(place);
            }
            case 5 -> due("found()", x.found(), m.found());
            case 6 -> due("open(" + by, x.open(kinds, cost), m.open(kinds, cost));
            case 7 -> {
                due("ask(" + by, x.ask(kinds, cost), m.ask(kinds, cost));
                due("asked()", x.asked(), m.asked());
            }
            default -> {
                due("noise(" + place + ", " + by, x.noise(place, kinds, cost), m.noise(place, kinds, cost));
                compareSaid(place);
            }
        }
    }

    /**
     * Each run likes one of the four groups best, so that states far from the beginning are met too. It ends well ahead
     * of the 512th call, for some steps are many calls.
     */
    private void go(int liking) {
        while (calls < 420 && check.allRight()) {
            switch (upTo(2) == 0 ? liking : upTo(3)) {
                case 0 -> patternCall();
                case 1 -> fittingCall();
                case 2 -> showingCall();
                default -> searchCall();
            }
        }
    }

    public static void main(String[] args) {
        int runs = args.length > 0 ? Integer.parseInt(args[0]) : 100;
        long first = args.length > 1 ? Long.parseLong(args[1]) : 1L;
        Check check = new Check();
        for (long seed = first; seed < first + runs && check.allRight(); seed++) {
            new ModelTest(seed, check).go((int) (seed % 4));
        }
        check.end();
    }
}
