/** The edges of promises 8 to 14: a test for each sentence that names one. */
public final class FittingEdgesTest extends Bench {
    private static final int OF_TWELVE = 531441;
    /** Two patterns of 12 nodes that fit the same rows of at most 12 letters, and not the same of 13: aaababaababaa. */
    private static final String FAR = "([ab]a+([ab]|(a[ab])+))+";
    private static final String FAR_AND_MORE = "([ab]a([ab]|(a+[ab])+))+";

    public static void main(String[] args) {
        new FittingEdgesTest().all();
    }

    private void all() {
        rowsAreNumbers();
        rowsHaveTwelveLettersAtMost();
        fitsNeedsPattern();
        letterFits();
        classFits();
        thenFits();
        eitherFits();
        againFits();
        maybeFits();
        outHasOneLetterAtLeast();
        outHasLeastBeginning();
        outIsLongest();
        outOfTwelve();
        outOfNothing();
        outIsBad();
        manyLengths();
        manyCountsEachOnce();
        manyIsBad();
        rowNumbers();
        rowOrder();
        rowIsBad();
        alikeOfAnyLength();
        alikeIsOfWhatFits();
        alikeAgain();
        alikeIsBad();
        partedByFirst();
        partedByEmpty();
        partedByTwelve();
        partedByMore();
        partedOfAlike();
        partedIsBad();
        insideOneWay();
        insideByOneRow();
        insideIsBad();
        check.end();
    }

    private static final int[] NO_ROWS = {0, 2, -1, -3, 6, 7, 8, 18, 26, LEAST, MOST};

    // ---- 8 fits

    private void rowsAreNumbers() {
        begin("8 fits, \"LETTERS as digits of base 3 behind a 1\"");
        read(0, "[abc]+?");
        int power = 1;
        for (int length = 0; length <= 12; length++) {
            due("behind rows of less letters than " + length, x.fits(0, power - 1), BAD);
            due("the first row of " + length, x.fits(0, power), 1);
            due("the last row of " + length, x.fits(0, 2 * power - 1), 1);
            due("behind the rows of " + length, x.fits(0, 2 * power), BAD);
            power *= 3;
        }
        for (int row : NO_ROWS) {
            due("row " + row, x.fits(0, row), BAD);
        }
        String[] rows = {"", "a", "b", "c", "aa", "cc", "aaa", "abc"};
        int[] told = {1, 3, 4, 5, 9, 17, 27, 32};
        for (int i = 0; i < rows.length; i++) {
            read(1, rows[i].isEmpty() ? "a?" : rows[i]);
            due("row \"" + rows[i] + "\"", x.fits(1, told[i]), 1);
        }
    }

    private void rowsHaveTwelveLettersAtMost() {
        begin("8 fits, \"A ROW has at most 12\"");
        read(0, "[abc]+");
        due("12 letters a", x.fits(0, OF_TWELVE), 1);
        due("12 letters c", x.fits(0, 2 * OF_TWELVE - 1), 1);
        due("13 letters a", x.fits(0, 3 * OF_TWELVE), BAD);
        due("13 letters c", x.fits(0, 6 * OF_TWELVE - 1), BAD);
        due("19 letters a", x.fits(0, 1162261467), BAD);
    }

    private void fitsNeedsPattern() {
        begin("8 fits, no such place or pattern");
        due("an empty place", x.fits(0, 1), BAD);
        for (int place : NO_PLACES) {
            due("place " + place, x.fits(place, 1), BAD);
        }
    }

    /** What a pattern fits of the rows of at most 3 letters, and nothing else. */
    private void dueFit(String text, String... rows) {
        renew();
        read(0, text);
        int fit = 0;
        for (int length = 0; length <= 3; length++) {
            for (String row : Rows.of(length)) {
                fit += x.fits(0, number(row));
            }
        }
        due(text + " fits so many", fit, rows.length);
        for (String row : rows) {
            due(text + " and \"" + row + "\"", x.fits(0, number(row)), 1);
        }
    }

    private void letterFits() {
        begin("8 fits, \"LETTER the ROW of that LETTER alone\"");
        dueFit("a", "a");
        dueFit("b", "b");
        dueFit("c", "c");
    }

    private void classFits() {
        begin("8 fits, \"CLASS the ROW of one of its LETTERS alone\"");
        dueFit("[a]", "a");
        dueFit("[b]", "b");
        dueFit("[ab]", "a", "b");
        dueFit("[c]", "c");
        dueFit("[ac]", "a", "c");
        dueFit("[bc]", "b", "c");
        dueFit("[abc]", "a", "b", "c");
    }

    private void thenFits() {
        begin("8 fits, \"THEN a ROW of what x FITS, and behind it what y FITS\"");
        dueFit("ab", "ab");
        dueFit("a?b", "b", "ab");
        dueFit("ab?", "a", "ab");
        dueFit("a?b?", "", "a", "b", "ab");
        dueFit("(a|ab)(c|bc)", "ac", "abc");
        dueFit("a+a", "aa", "aaa");
    }

    private void eitherFits() {
        begin("8 fits, \"EITHER what x FITS, and what y FITS\"");
        dueFit("a|bc", "a", "bc");
        dueFit("a|a", "a");
        dueFit("b?|c", "", "b", "c");
    }

    private void againFits() {
        begin("8 fits, \"AGAIN one or more, one behind the other\"");
        dueFit("a+", "a", "aa", "aaa");
        dueFit("(ab)+", "ab");
        dueFit("(a?)+", "", "a", "aa", "aaa");
        dueFit("(a|bb)+", "a", "aa", "aaa", "bb", "abb", "bba");
        renew();
        read(0, "(abc)+");
        due("four of them", x.fits(0, number("abcabcabcabc")), 1);
        due("and not quite four", x.fits(0, number("abcabcabcab")), 0);
        read(0, "c+");
        due("twelve", x.fits(0, 2 * OF_TWELVE - 1), 1);
    }

    private void maybeFits() {
        begin("8 fits, \"MAYBE what x FITS, and the empty ROW\"");
        dueFit("a?", "", "a");
        dueFit("(ab)?", "", "ab");
        dueFit("(a+)?", "", "a", "aa", "aaa");
        dueFit("a??", "", "a");
    }

    // ---- 9 out

    private void outHasOneLetterAtLeast() {
        begin("9 out, \"one at least\"");
        read(0, "b?");
        due("an empty part does not come out", x.out(0, number("aab")), 201);
        due("nor of a row without b", x.out(0, number("aca")), NOT);
        read(0, "b+?");
        due("nor ahead of a longer one", x.out(0, number("abb")), 102);
    }

    private void outHasLeastBeginning() {
        begin("9 out, \"the one with the least beginning\"");
        read(0, "a|bbb");
        due("a short one ahead of a long one", x.out(0, number("cabbb")), 101);
        due("a long one ahead of a short one", x.out(0, number("cbbba")), 103);
    }

    private void outIsLongest() {
        begin("9 out, \"of these the longest\"");
        read(0, "a|ab(cb)?");
        due("one", x.out(0, number("caca")), 101);
        due("two", x.out(0, number("cabca")), 102);
        due("four, though three are not fit", x.out(0, number("cabcb")), 104);
        due("the whole row", x.out(0, number("abcb")), 4);
    }

    private void outOfTwelve() {
        begin("9 out, \"100 times its beginning, and its length\"");
        read(0, "a+b?");
        due("one letter", x.out(0, number("a")), 1);
        due("12 letters", x.out(0, number("aaaaaaaaaaab")), 12);
        due("the last of 12", x.out(0, number("bbbbbbbbbbba")), 1101);
        due("11 of 12", x.out(0, number("caaaaaaaaaab")), 111);
    }

    private void outOfNothing() {
        begin("9 out, \"NOT: nothing\"");
        read(0, "ab");
        due("no part", x.out(0, number("bacaa")), NOT);
        due("the empty row", x.out(0, 1), NOT);
        read(0, "a?");
        due("the empty row, though it is fit", x.out(0, 1), NOT);
        due("12 letters", x.out(0, number("bbbbbbcccccc")), NOT);
    }

    private void outIsBad() {
        begin("9 out, BAD");
        read(0, "a");
        for (int row : NO_ROWS) {
            due("row " + row, x.out(0, row), BAD);
        }
        due("13 letters", x.out(0, 3 * OF_TWELVE), BAD);
        due("an empty place", x.out(1, 3), BAD);
        for (int place : NO_PLACES) {
            due("place " + place, x.out(place, 3), BAD);
        }
    }

    // ---- 10 many

    private void manyLengths() {
        begin("10 many, \"a length (0 .. 12)\"");
        read(0, "[abc]+?");
        int all = 1;
        for (int length = 0; length <= 12; length++) {
            due("length " + length, x.many(0, length), all);
            all *= 3;
        }
        for (int length : new int[] {-1, 13, LEAST, MOST}) {
            due("length " + length, x.many(0, length), BAD);
        }
        read(1, "[abc]+");
        due("not the empty row", x.many(1, 0), 0);
        read(2, "abcabc");
        due("none of 5", x.many(2, 5), 0);
        due("one of 6", x.many(2, 6), 1);
        due("none of 12", x.many(2, 12), 0);
    }

    private void manyCountsEachOnce() {
        begin("10 many, ROWS are counted, not the ways to fit them");
        read(0, "(a|a|[ab]|b)?");
        due("of 1", x.many(0, 1), 2);
        read(0, "(a+)+");
        due("of 12", x.many(0, 12), 1);
        read(0, "([ab]?[ab]?)+");
        due("of 12", x.many(0, 12), 4096);
        due("the empty one", x.many(0, 0), 1);
        read(0, "(a|b)+a[ab][ab]");
        due("of 12", x.many(0, 12), 2048);
    }

    private void manyIsBad() {
        begin("10 many, no such place or pattern");
        due("an empty place", x.many(0, 1), BAD);
        for (int place : NO_PLACES) {
            due("place " + place, x.many(place, 1), BAD);
        }
    }

    // ---- 11 row

    private void rowNumbers() {
        begin("11 row, \"The i-th (from 0 on)\", \"BAD (also: none such)\"");
        read(0, "[abc]+?");
        int all = 1;
        for (int length = 0; length <= 12; length++) {
            due("the first of " + length, x.row(0, length, 0), all);
            due("the last of " + length, x.row(0, length, all - 1), 2 * all - 1);
            due("behind the last of " + length, x.row(0, length, all), BAD);
            due("ahead of the first of " + length, x.row(0, length, -1), BAD);
            all *= 3;
        }
        read(1, "ab");
        due("none of that length", x.row(1, 3, 0), BAD);
        due("none of no letters", x.row(1, 0, 0), BAD);
        due("the only one", x.row(1, 2, 0), number("ab"));
        due("no second one", x.row(1, 2, 1), BAD);
        for (int i : new int[] {LEAST, MOST}) {
            due("i " + i, x.row(0, 12, i), BAD);
        }
    }

    private void rowOrder() {
        begin("11 row, \"by the first LETTER that differs\"");
        read(0, "c[ab]|ab|b[ac]");
        int[] due = numbers("ab", "ba", "bc", "ca", "cb");
        for (int i = 0; i < due.length; i++) {
            due("row " + i, x.row(0, 2, i), due[i]);
        }
        due("no more", x.row(0, 2, due.length), BAD);
        read(1, "(b|ca)+");
        int[] four = numbers("bbbb", "bbca", "bcab", "cabb", "caca");
        for (int i = 0; i < four.length; i++) {
            due("row " + i, x.row(1, 4, i), four[i]);
        }
    }

    private void rowIsBad() {
        begin("11 row, BAD");
        due("an empty place", x.row(0, 1, 0), BAD);
        read(0, "[abc]+?");
        for (int place : NO_PLACES) {
            due("place " + place, x.row(place, 1, 0), BAD);
        }
        for (int length : new int[] {-1, 13, LEAST, MOST}) {
            due("length " + length, x.row(0, length, 0), BAD);
            due("length " + length + ", i -1", x.row(0, length, -1), BAD);
        }
    }

    // ---- 12 alike, 13 parted, 14 inside

    private void two(String a, String b) {
        renew();
        read(0, a);
        read(9, b);
    }

    private void alikeOfAnyLength() {
        begin("12 alike, \"the same ROWS, of any length\"");
        two("baaaab", "(baaaab)+");
        due("parted by 12 letters", x.alike(0, 9), 0);
        two(FAR, FAR_AND_MORE);
        for (int length = 0; length <= 12; length++) {
            due("as many of " + length, x.many(0, length), x.many(9, length));
        }
        due("parted by 13 letters", x.alike(0, 9), 0);
        due("the other way", x.alike(9, 0), 0);
        two("(a|b)+", "([ab]+)+");
        due("no row parts them", x.alike(0, 9), 1);
    }

    private void alikeIsOfWhatFits() {
        begin("12 alike, by what is fit and not by the tree");
        String[] a = {"[a]", "a|b", "a+?", "(ab)+a", "aa+", "a"};
        String[] b = {"a", "[ab]", "a?+", "a(ba)+", "a+a", "a"};
        for (int i = 0; i < a.length; i++) {
            two(a[i], b[i]);
            due(a[i] + " and " + b[i], x.alike(0, 9), 1);
            due(b[i] + " and " + a[i], x.alike(9, 0), 1);
        }
        due("one place with itself", x.alike(0, 0), 1);
        two("a+", "a+?");
        due("parted by the empty row", x.alike(0, 9), 0);
    }

    private void alikeAgain() {
        begin("12 alike, 13 parted, 14 inside: what was compared before does not count");
        two(FAR, FAR_AND_MORE);
        read(1, "a");
        read(2, "[a]");
        read(3, "[ab]");
        for (int i = 0; i < 3; i++) {
            due("two far apart", x.parted(0, 9), FULL);
            due("two that are alike", x.alike(1, 2), 1);
            due("two that are parted", x.parted(3, 2), number("b"));
            due("two that are alike", x.parted(2, 1), NOT);
            due("one inside another", x.inside(0, 9), 1);
            due("one inside another", x.inside(1, 3), 1);
            due("one not inside another", x.inside(3, 1), 0);
        }
    }

    private void alikeIsBad() {
        begin("12 alike, no such place or pattern");
        read(0, "a");
        due("an empty place", x.alike(0, 1), BAD);
        due("an empty place", x.alike(1, 0), BAD);
        due("an empty place with itself", x.alike(1, 1), BAD);
        for (int place : NO_PLACES) {
            due("place " + place, x.alike(place, 0), BAD);
            due("place " + place, x.alike(0, place), BAD);
        }
    }

    private void dueParted(String a, String b, int row) {
        two(a, b);
        due(a + " and " + b, x.parted(0, 9), row);
        due(b + " and " + a, x.parted(9, 0), row);
    }

    private void partedByFirst() {
        begin("13 parted, \"the first ROW that just one FITS\"");
        dueParted("aaa", "c", number("c"));
        dueParted("b|aa", "b|c", number("c"));
        dueParted("a", "b", number("a"));
        dueParted("[ab]c", "[bc]c", number("ac"));
        dueParted("b(a|c)", "b(a|b)", number("bb"));
        dueParted("(aa)+|(aaa)+", "(aa|aaa)+", number("aaaaa"));
    }

    private void partedByEmpty() {
        begin("13 parted, by \"the empty one is 1\"");
        dueParted("a", "a?", 1);
        dueParted("a", "b?", 1);
    }

    private void partedByTwelve() {
        begin("13 parted, by a row of 12 LETTERS");
        dueParted("baaaab", "(baaaab)+", number("baaaabbaaaab"));
        dueParted("aaaaaa", "(aaaaaa)+", OF_TWELVE);
        dueParted("cccccc", "(cccccc)+", 2 * OF_TWELVE - 1);
    }

    private void partedByMore() {
        begin("13 parted, \"FULL: it has more than 12 LETTERS\"");
        dueParted(FAR, FAR_AND_MORE, FULL);
        dueParted("([bc]b+([bc]|(b[bc])+))+", "([bc]b([bc]|(b+[bc])+))+", FULL);
    }

    private void partedOfAlike() {
        begin("13 parted, \"NOT: they are ALIKE\"");
        dueParted("[ab]", "b|a", NOT);
        dueParted("a+?", "a?+", NOT);
        due("one place with itself", x.parted(0, 0), NOT);
    }

    private void partedIsBad() {
        begin("13 parted, no such place or pattern");
        read(0, "a");
        due("an empty place", x.parted(0, 1), BAD);
        due("an empty place", x.parted(1, 0), BAD);
        due("BAD ahead of NOT", x.parted(1, 1), BAD);
        for (int place : NO_PLACES) {
            due("place " + place, x.parted(place, 0), BAD);
            due("place " + place, x.parted(0, place), BAD);
        }
    }

    private void dueInside(String a, String b, int there, int back) {
        two(a, b);
        due(a + " inside " + b, x.inside(0, 9), there);
        due(b + " inside " + a, x.inside(9, 0), back);
    }

    private void insideOneWay() {
        begin("14 inside, \"1 if a is INSIDE b\"");
        dueInside("a", "a+", 1, 0);
        dueInside("(ab)+", "(a|b)+", 1, 0);
        dueInside("a|b", "b|c", 0, 0);
        dueInside("[ab]", "b|a", 1, 1);
        due("one place with itself", x.inside(0, 0), 1);
    }

    private void insideByOneRow() {
        begin("14 inside, \"all that it FITS\"");
        dueInside("a+", "a+?", 1, 0);
        dueInside("a?", "a+", 0, 0);
        dueInside("baaaab", "(baaaab)+", 1, 0);
        dueInside(FAR, FAR_AND_MORE, 1, 0);
    }

    private void insideIsBad() {
        begin("14 inside, no such place or pattern");
        read(0, "a");
        due("an empty place", x.inside(0, 1), BAD);
        due("an empty place", x.inside(1, 0), BAD);
        due("an empty place with itself", x.inside(1, 1), BAD);
        for (int place : NO_PLACES) {
            due("place " + place, x.inside(place, 0), BAD);
            due("place " + place, x.inside(0, place), BAD);
        }
    }
}
