import java.util.function.ToIntFunction;

/**
 * Section 4: what is answered BAD, NOT or FULL changes nothing. Two objects are made alike, one of them is asked what it
 * refuses, and then both must answer the same to all that can be seen of them.
 */
public final class RefusalsTest {
    private static final int BAD = -1, NOT = -2, FULL = -3;
    private static final int LEAST = Integer.MIN_VALUE, MOST = Integer.MAX_VALUE;
    private static final Check CHECK = new Check();

    public static void main(String[] args) {
        for (boolean filled : new boolean[] {false, true}) {
            patterns(filled);
            fitting(filled);
            showings(filled);
            searches(filled);
        }
        whatIsFull();
        CHECK.end();
    }

    private static void read(ShownPatterns x, int place, String text) {
        feed(x, text);
        x.read(place);
    }

    private static void feed(ShownPatterns x, String text) {
        for (char sign : text.toCharArray()) {
            x.feed(1, sign);
        }
    }

    /** Something of each: patterns, showings, one taken back, a text that is begun, a search that is under way. */
    private static ShownPatterns made(boolean filled) {
        ShownPatterns x = new ShownPatterns();
        read(x, 0, "ab+");
        read(x, 1, "[ab]|c");
        read(x, 3, "aaab");
        read(x, 4, "a(b+)");
        x.show(Rows.toNumber("ab"), 1, 0, 5);
        x.show(Rows.toNumber("cabb"), 2, 13, 7);
        x.show(Rows.toNumber("b"), 0, 0, 11);
        x.show(Rows.toNumber("a"), 1, 0, 13);
        x.back(3, 1);
        for (int i = 4; filled && i < 20; i++) {
            x.show(Rows.toNumber("ccc"), 0, 0, i);
        }
        x.find(5, 63, 10);
        x.next(6);
        x.ask(63, 10);
        feed(x, filled ? "(((((([abc]))))))(((((([abc]))))))(((((([abc]))))))[a](a|" : "(a|");
        return x;
    }

    /** All that can be seen of an object, told in one text; it is used up by that. */
    private static String seen(ShownPatterns x) {
        StringBuilder told = new StringBuilder();
        tell(told, x.found(), x.asked(), x.count(0), x.count(1), x.count(2), x.count(3));
        for (int place = 0; place < 10; place++) {
            tellPlace(told, x, place);
        }
        for (int showing = 0; showing < x.count(1); showing++) {
            tell(told, x.agrees(0, showing), x.agrees(1, showing), x.back(showing, 0));
            tell(told, x.paid(0), x.paid(1), x.back(showing, 1));
        }
        for (int i = 0; i < 4; i++) {
            tell(told, x.next(7), x.found());
            tellPlace(told, x, 7);
        }
        tell(told, x.show(1, 0, 0, 1), x.open(63, 6), x.noise(8, 63, 6));
        feed(x, "c)+");
        tell(told, x.count(3), x.read(9));
        tellPlace(told, x, 9);
        return told.toString();
    }

    private static void tellPlace(StringBuilder told, ShownPatterns x, int place) {
        int length = x.say(place, -1);
        for (int at = 0; at < length; at++) {
            told.append((char) x.say(place, at));
        }
        tell(told, length);
    }

    private static void tell(StringBuilder told, int... answers) {
        for (int answer : answers) {
            told.append(' ').append(answer);
        }
        told.append('\n');
    }

    private static void refused(String call, boolean filled, int want, ToIntFunction<ShownPatterns> asked) {
        ShownPatterns x = made(filled);
        CHECK.due(call, asked.applyAsInt(x), want);
        CHECK.due(call + " twice", asked.applyAsInt(x), want);
        CHECK.due("behind " + call, seen(x), seen(made(filled)));
    }

    private static void patterns(boolean filled) {
        for (int n : new int[] {0, 5, -1, LEAST, MOST}) {
            refused("2 feed(" + n + ")", filled, BAD, x -> x.feed(n, 'a'));
        }
        for (int place : new int[] {-1, 10, LEAST, MOST}) {
            refused("3 read(" + place + ")", filled, BAD, x -> x.read(place));
            refused("7 nth(" + place + ")", filled, BAD, x -> x.nth(place, 5, 0));
        }
        for (int place : new int[] {-1, 2, 10, LEAST, MOST}) {
            refused("4 say(" + place + ")", filled, BAD, x -> x.say(place, -1));
            refused("5 drop(" + place + ")", filled, BAD, x -> x.drop(place));
            refused("6 about(" + place + ")", filled, BAD, x -> x.about(place, 3));
        }
        refused("4 say(0, 3)", filled, BAD, x -> x.say(0, 3));
        refused("4 say(0, -2)", filled, BAD, x -> x.say(0, -2));
        refused("6 about(0, 4)", filled, BAD, x -> x.about(0, 4));
        refused("6 about(3, 2)", filled, NOT, x -> x.about(3, 2));
        refused("6 about(3, 3)", filled, NOT, x -> x.about(3, 3));
        for (int place : new int[] {0, 2}) {
            refused("7 nth, cost 1", filled, BAD, x -> x.nth(place, 1, 0));
            refused("7 nth, cost 11", filled, BAD, x -> x.nth(place, 11, 0));
            refused("7 nth, number -1", filled, BAD, x -> x.nth(place, 5, -1));
            refused("7 nth, number 23", filled, BAD, x -> x.nth(place, 5, 23));
        }
    }

    private static void fitting(boolean filled) {
        for (int place : new int[] {-1, 2, 10, LEAST, MOST}) {
            refused("8 fits(" + place + ")", filled, BAD, x -> x.fits(place, 3));
            refused("9 out(" + place + ")", filled, BAD, x -> x.out(place, 3));
            refused("10 many(" + place + ")", filled, BAD, x -> x.many(place, 3));
            refused("11 row(" + place + ")", filled, BAD, x -> x.row(place, 3, 0));
            refused("12 alike(" + place + ")", filled, BAD, x -> x.alike(place, 0));
            refused("13 parted(" + place + ")", filled, BAD, x -> x.parted(0, place));
            refused("14 inside(" + place + ")", filled, BAD, x -> x.inside(place, 0));
        }
        refused("8 fits(0, 2)", filled, BAD, x -> x.fits(0, 2));
        refused("9 out(0, 2)", filled, BAD, x -> x.out(0, 2));
        refused("9 out(0, c)", filled, NOT, x -> x.out(0, 5));
        refused("10 many(0, 13)", filled, BAD, x -> x.many(0, 13));
        refused("11 row(0, 13)", filled, BAD, x -> x.row(0, 13, 0));
        refused("11 row, none such", filled, BAD, x -> x.row(0, 2, 1));
        refused("13 parted, alike", filled, NOT, x -> x.parted(0, 4));
    }

    private static void showings(boolean filled) {
        refused("15 show, row 2", filled, BAD, x -> x.show(2, 1, 0, 1));
        refused("15 show, 7 letters", filled, BAD, x -> x.show(2187, 1, 0, 1));
        refused("15 show, said 4", filled, BAD, x -> x.show(3, 4, 0, 1));
        refused("15 show, part 10", filled, BAD, x -> x.show(9, 2, 10, 1));
        refused("15 show, part 12", filled, BAD, x -> x.show(9, 2, 12, 1));
        refused("15 show, part 1", filled, BAD, x -> x.show(9, 1, 1, 1));
        refused("15 show, price 0", filled, BAD, x -> x.show(3, 1, 0, 0));
        refused("15 show, price 100", filled, BAD, x -> x.show(3, 1, 0, 100));
        for (int showing : new int[] {-1, 20, 32, LEAST, MOST}) {
            refused("16 back(" + showing + ")", filled, BAD, x -> x.back(showing, 1));
            refused("17 agrees(0, " + showing + ")", filled, BAD, x -> x.agrees(0, showing));
        }
        refused("16 back(0, 2)", filled, BAD, x -> x.back(0, 2));
        refused("16 back(3, -1)", filled, BAD, x -> x.back(3, -1));
        refused("17 agrees(2, 0)", filled, BAD, x -> x.agrees(2, 0));
        refused("18 paid(2)", filled, BAD, x -> x.paid(2));
        refused("18 paid(10)", filled, BAD, x -> x.paid(10));
    }

    private static void searches(boolean filled) {
        for (int place : new int[] {-1, 10, LEAST, MOST}) {
            refused("19 find(" + place + ")", filled, BAD, x -> x.find(place, 63, 10));
            refused("20 next(" + place + ")", filled, BAD, x -> x.next(place));
            refused("25 noise(" + place + ")", filled, BAD, x -> x.noise(place, 63, 10));
        }
        for (int kinds : new int[] {0, 64, -1, LEAST, MOST}) {
            refused("19 find, kinds " + kinds, filled, BAD, x -> x.find(0, kinds, 10));
            refused("22 open, kinds " + kinds, filled, BAD, x -> x.open(kinds, 10));
            refused("23 ask, kinds " + kinds, filled, BAD, x -> x.ask(kinds, 10));
            refused("25 noise, kinds " + kinds, filled, BAD, x -> x.noise(0, kinds, 10));
        }
        for (int cost : new int[] {1, 11, LEAST, MOST}) {
            refused("19 find, cost " + cost, filled, BAD, x -> x.find(2, 63, cost));
            refused("22 open, cost " + cost, filled, BAD, x -> x.open(63, cost));
            refused("23 ask, cost " + cost, filled, BAD, x -> x.ask(63, cost));
            refused("25 noise, cost " + cost, filled, BAD, x -> x.noise(2, 63, cost));
        }
        refused("25 noise, no pattern", filled, NOT, x -> x.noise(0, 4, 10));
        refused("25 noise, no pattern, an empty place", filled, NOT, x -> x.noise(2, 4, 10));
        refused("26 count(4)", filled, BAD, x -> x.count(4));
        refused("26 count(-1)", filled, BAD, x -> x.count(-1));
    }

    private static void whatIsFull() {
        refused("2 feed, 4 bytes on 57", true, FULL, x -> x.feed(4, 'c' | ')' << 8 | '?' << 16 | '?' << 24));
        refused("15 show, the 21st", true, FULL, x -> x.show(3, 1, 0, 1));
        refused("15 show, the 21st", true, FULL, x -> x.show(9, 2, 11, 99));
    }
}
