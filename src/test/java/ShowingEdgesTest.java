/** The edges of promises 15 to 18: a test for each sentence that names one. */
public final class ShowingEdgesTest extends Bench {
    private static final int ABC = number("abc");

    public static void main(String[] args) {
        new ShowingEdgesTest().all();
    }

    private void all() {
        showingsAreNumbered();
        twentyShowings();
        badShowAheadOfFull();
        shownRows();
        shownSaid();
        shownPrices();
        partsOfSaidTwo();
        noPartOfOthers();
        badShowChangesNothing();
        backTellsWhatItWas();
        backIsZeroOrOne();
        backNeedsShowing();
        saidZero();
        saidOne();
        saidTwo();
        saidThree();
        agreesTakenBackOrNot();
        agreesIsBad();
        paidSums();
        paidLeavesOutTakenBack();
        paidIsBad();
        check.end();
    }

    // ---- 15 show

    private void showingsAreNumbered() {
        begin("15 show, \"SHOWINGS 0 .. 19, as they came\"");
        read(0, "a");
        due("the first", shall("a"), 0);
        due("the second", shall("b"), 1);
        due("the same once more", shall("a"), 2);
        due("showing 0 is of a", x.agrees(0, 0), 1);
        due("showing 1 is of b", x.agrees(0, 1), 0);
        due("showing 2 is of a", x.agrees(0, 2), 1);
        due("one more, with all taken back", x.back(0, 1) + x.back(1, 1) + x.back(2, 1), 0);
        due("is the fourth", shall("a"), 3);
    }

    private void fill() {
        for (int i = 0; i < 20; i++) {
            due("showing " + i, x.show(ABC, i % 2, 0, 99), i);
        }
    }

    private void twentyShowings() {
        begin("15 show, FULL behind 20");
        fill();
        due("the 21st", x.show(ABC, 1, 0, 1), FULL);
        due("count(1)", x.count(1), 20);
        for (int i = 0; i < 20; i++) {
            x.back(i, 1);
        }
        due("though all are taken back", x.show(ABC, 1, 0, 1), FULL);
        due("no showing 20", x.back(20, 0), BAD);
        due("the 20th is one", x.back(19, 0), 1);
    }

    private void badShowAheadOfFull() {
        begin("15 show, BAD ahead of FULL");
        fill();
        due("row", x.show(2, 1, 0, 1), BAD);
        due("7 letters", x.show(number("aaaaaaa"), 1, 0, 1), BAD);
        due("said", x.show(ABC, 4, 0, 1), BAD);
        due("part", x.show(ABC, 2, 10, 1), BAD);
        due("price", x.show(ABC, 1, 0, 0), BAD);
        due("none of these", x.show(ABC, 2, 12, 1), FULL);
    }

    private void shownRows() {
        begin("15 show, \"a ROW of at most 6 LETTERS\"");
        int i = 0;
        for (int row : new int[] {1, 3, 5, number("aaaaaa"), number("cccccc")}) {
            due("row " + row, x.show(row, 1, 0, 1), i++);
        }
        for (int row : new int[] {0, 2, 6, 8, -1, -3, 728, 1458, LEAST, MOST}) {
            due("row " + row, x.show(row, 1, 0, 1), BAD);
        }
        for (String row : new String[] {"aaaaaaa", "ccccccc", "aaaaaaaaaaaa", "cccccccccccc"}) {
            due("row " + row, shall(row), BAD);
        }
        due("so many came", x.count(1), i);
    }

    private void shownSaid() {
        begin("15 show, said is 0 .. 3");
        due("said 0", x.show(ABC, 0, 0, 1), 0);
        due("said 1", x.show(ABC, 1, 0, 1), 1);
        due("said 2", x.show(ABC, 2, 1, 1), 2);
        due("said 3", x.show(ABC, 3, 0, 1), 3);
        for (int said : new int[] {-1, 4, LEAST, MOST}) {
            due("said " + said, x.show(ABC, said, 0, 1), BAD);
            due("said " + said, x.show(ABC, said, 1, 1), BAD);
        }
        due("said 0 of the empty row", x.show(1, 0, 0, 1), 4);
        due("said 1 of the empty row", x.show(1, 1, 0, 1), 5);
        due("said 3 of the empty row", x.show(1, 3, 0, 1), 6);
        due("so many came", x.count(1), 7);
    }

    private void shownPrices() {
        begin("15 show, \"a PRICE (1 .. 99)\"");
        due("price 1", x.show(ABC, 1, 0, 1), 0);
        due("price 99", x.show(ABC, 1, 0, 99), 1);
        for (int price : new int[] {0, 100, -1, LEAST, MOST}) {
            due("price " + price, x.show(ABC, 1, 0, price), BAD);
        }
        read(0, "a");
        due("what they cost", x.paid(0), 100);
    }

    private void partsOfSaidTwo() {
        begin("15 show, part \"10 times the beginning, and the length (1 at least; within the ROW)\"");
        int row = 1;
        for (int length = 0; length <= 6; length++) {
            for (int part = -11; part <= 110; part++) {
                if (part % 8 == 0) {
                    renew();
                }
                boolean within = part > 0 && part % 10 >= 1 && part / 10 + part % 10 <= length;
                due(length + " letters, part " + part, x.show(row, 2, part, 1) >= 0 ? 1 : BAD, within ? 1 : BAD);
            }
            row *= 3;
        }
        int most = number("cccccc");
        for (int part : new int[] {1, 6, 15, 51}) {
            due("part " + part + " of 6", x.show(most, 2, part, 1) >= 0);
        }
        for (int part : new int[] {0, 7, 9, 16, 50, 52, 60, 61, LEAST, MOST, 1000001}) {
            due("part " + part + " of 6", x.show(most, 2, part, 1), BAD);
        }
        due("no part of the empty row", x.show(1, 2, 0, 1), BAD);
    }

    private void noPartOfOthers() {
        begin("15 show, part is \"else 0\"");
        for (int said : new int[] {0, 1, 3}) {
            for (int part : new int[] {1, -1, 3, 10, 12, LEAST, MOST}) {
                due("said " + said + ", part " + part, x.show(ABC, said, part, 1), BAD);
            }
        }
        due("none came", x.count(1), 0);
    }

    private void badShowChangesNothing() {
        begin("15 show, BAD changes nothing");
        shall("a");
        x.show(2, 1, 0, 1);
        x.show(ABC, 2, 13, 1);
        due("the next number", shall("b"), 1);
        due("count(1)", x.count(1), 2);
    }

    // ---- 16 back

    private void backTellsWhatItWas() {
        begin("16 back, \"what it was\"");
        shall("a");
        shall("b");
        due("0 to 0", x.back(0, 0), 0);
        due("0 to 1", x.back(0, 1), 0);
        due("1 to 1", x.back(0, 1), 1);
        due("the other was not", x.back(1, 0), 0);
        due("count(2)", x.count(2), 1);
        due("1 to 0", x.back(0, 0), 1);
        due("0 to 0", x.back(0, 0), 0);
        due("count(2)", x.count(2), 0);
        due("count(1)", x.count(1), 2);
    }

    private void backIsZeroOrOne() {
        begin("16 back, \"TAKEN BACK (1) or not (0)\"");
        shall("a");
        x.back(0, 1);
        for (int is : new int[] {-1, 2, LEAST, MOST}) {
            due("is " + is, x.back(0, is), BAD);
        }
        due("it stays", x.back(0, 1), 1);
    }

    private void backNeedsShowing() {
        begin("16 back, no such showing");
        due("none yet", x.back(0, 1), BAD);
        for (int i = 0; i < 3; i++) {
            shall("a");
        }
        for (int showing : new int[] {-1, 3, 19, 20, 31, 32, 33, LEAST, MOST}) {
            due("showing " + showing, x.back(showing, 1), BAD);
        }
        due("none taken back", x.count(2), 0);
        due("the last", x.back(2, 1), 0);
    }

    // ---- 17 agrees

    private void dueAgrees(String text, String row, int said, int part, int want) {
        renew();
        read(0, text);
        x.show(number(row), said, part, 1);
        due(text + " and \"" + row + "\", said " + said + ", part " + part, x.agrees(0, 0), want);
        due("paid " + text, x.paid(0), 1 - want);
    }

    private void saidZero() {
        begin("17 agrees, \"0 it shall not be FIT\"");
        dueAgrees("ab", "ab", 0, 0, 0);
        dueAgrees("ab", "aba", 0, 0, 1);
        dueAgrees("a", "", 0, 0, 1);
        dueAgrees("a?", "", 0, 0, 0);
        dueAgrees("c+", "cccccc", 0, 0, 0);
    }

    private void saidOne() {
        begin("17 agrees, \"1 it shall\"");
        dueAgrees("ab", "ab", 1, 0, 1);
        dueAgrees("ab", "aba", 1, 0, 0);
        dueAgrees("a", "", 1, 0, 0);
        dueAgrees("a?", "", 1, 0, 1);
        dueAgrees("c+", "cccccc", 1, 0, 1);
        dueAgrees("(cc)+", "ccccc", 1, 0, 0);
        dueAgrees("c+b?", "cccccc", 1, 0, 1);
        dueAgrees("b?c+", "cccccc", 1, 0, 1);
        dueAgrees("a?b?", "", 1, 0, 1);
    }

    private void saidTwo() {
        begin("17 agrees, \"2 a told part of it shall COME OUT\"");
        dueAgrees("ab+", "cabb", 2, 13, 1);
        dueAgrees("ab+", "cabb", 2, 12, 0);
        dueAgrees("b", "cabb", 2, 21, 1);
        dueAgrees("b", "cabb", 2, 31, 0);
        dueAgrees("a", "aaaaaa", 2, 1, 1);
        dueAgrees("a+", "aaaaaa", 2, 6, 1);
        dueAgrees("a+", "aaaaaa", 2, 51, 0);
        dueAgrees("a", "bbbbba", 2, 51, 1);
        dueAgrees("c", "abab", 2, 1, 0);
        dueAgrees("a?", "ba", 2, 11, 1);
    }

    private void saidThree() {
        begin("17 agrees, \"3 nothing shall come out\"");
        dueAgrees("ab", "bacaac", 3, 0, 1);
        dueAgrees("ab", "bacaab", 3, 0, 0);
        dueAgrees("a", "", 3, 0, 1);
        dueAgrees("a?", "", 3, 0, 1);
        dueAgrees("a?", "bc", 3, 0, 1);
        dueAgrees("a?", "bca", 3, 0, 0);
    }

    private void agreesTakenBackOrNot() {
        begin("17 agrees, \"(TAKEN BACK or not)\"");
        read(0, "a");
        shall("a");
        shall("b");
        x.back(0, 1);
        x.back(1, 1);
        due("it agrees", x.agrees(0, 0), 1);
        due("it does not", x.agrees(0, 1), 0);
    }

    private void agreesIsBad() {
        begin("17 agrees, no such place, pattern or showing");
        read(0, "a");
        due("no showing yet", x.agrees(0, 0), BAD);
        shall("a");
        for (int showing : new int[] {-1, 1, 20, 32, LEAST, MOST}) {
            due("showing " + showing, x.agrees(0, showing), BAD);
        }
        due("an empty place", x.agrees(1, 0), BAD);
        for (int place : NO_PLACES) {
            due("place " + place, x.agrees(place, 0), BAD);
        }
    }

    // ---- 18 paid

    private void paidSums() {
        begin("18 paid, \"the PRICES of those .. with which it does not AGREE\"");
        read(0, "a");
        due("no showings", x.paid(0), 0);
        for (int i = 0; i < 20; i++) {
            due("showing " + i, x.show(number("b"), 1, 0, 99), i);
            due("paid", x.paid(0), 99 * (i + 1));
        }
        read(1, "b");
        due("all agreed", x.paid(1), 0);
    }

    private void paidLeavesOutTakenBack() {
        begin("18 paid, \"those that are not TAKEN BACK\"");
        read(0, "a");
        x.show(number("b"), 1, 0, 7);
        x.show(number("c"), 1, 0, 20);
        x.show(number("a"), 1, 0, 50);
        due("both", x.paid(0), 27);
        x.back(0, 1);
        due("one taken back", x.paid(0), 20);
        x.back(2, 1);
        due("one agreed taken back", x.paid(0), 20);
        x.back(1, 1);
        due("all taken back", x.paid(0), 0);
        x.back(0, 0);
        due("one not any more", x.paid(0), 7);
    }

    private void paidIsBad() {
        begin("18 paid, no such place or pattern");
        due("an empty place", x.paid(0), BAD);
        for (int place : NO_PLACES) {
            due("place " + place, x.paid(place), BAD);
        }
    }
}
