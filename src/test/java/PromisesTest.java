/** Each promise of the document by hand: ordinary inputs, the edges that it names, and wrong inputs. */
public final class PromisesTest extends Bench {
    public static void main(String[] args) {
        new PromisesTest().all();
    }

    private void all() {
        aNewObject();
        feeding();
        reading();
        faults();
        saying();
        dropping();
        telling();
        nth();
        fitting();
        comingOut();
        counting();
        rows();
        comparing();
        parting();
        inside();
        showing();
        takingBack();
        agreeing();
        paying();
        finding();
        nextOnes();
        searchesAndShowings();
        open();
        asking();
        noise();
        counts();
        check.end();
    }

    private void aNewObject() {
        begin("1 a new object");
        for (int what = 0; what <= 3; what++) {
            due("count(" + what + ")", x.count(what), 0);
        }
        for (int place = 0; place < 10; place++) {
            due("about(" + place + ", 0)", x.about(place, 0), BAD);
        }
        due("found()", x.found(), 0);
        due("asked()", x.asked(), 0);
        due("BAD", ShownPatterns.BAD, -1);
        due("NOT", ShownPatterns.NOT, -2);
        due("FULL", ShownPatterns.FULL, -3);
        due("read(0)", x.read(0), -100);
        ShownPatterns one = new ShownPatterns();
        one.feed(1, 'a');
        due("another object's tape", x.count(3), 0);
    }

    private void feeding() {
        begin("2 feed");
        due("the lowest byte first", x.feed(3, 'a' | 'b' << 8 | 'c' << 16 | 'a' << 24), 3);
        due("read(0)", x.read(0), 8);
        dueSaid(0, "abc");
        due("n 0", x.feed(0, 97), BAD);
        due("n 5", x.feed(5, 97), BAD);
        due("n -1", x.feed(-1, 97), BAD);
        due("n least", x.feed(Integer.MIN_VALUE, 97), BAD);
        due("count(3)", x.count(3), 0);
        due("a byte of 255", x.feed(4, -1), 4);
        due("its fault", x.read(0), -100);
        for (int i = 1; i <= 14; i++) {
            due("feed(4, ..)", x.feed(4, 0x61616161), 4 * i);
        }
        due("57", x.feed(1, 97), 57);
        due("61 bytes", x.feed(4, 0x61616161), FULL);
        due("BAD ahead of FULL", x.feed(5, 97), BAD);
        due("nothing came", x.count(3), 57);
        due("60", x.feed(3, 0x616161), 60);
        due("61", x.feed(1, 97), FULL);
        due("60 letters", x.read(0), -1000);
        due("empty again", x.count(3), 0);
    }

    private void reading() {
        begin("3 read");
        due("a|[bc]+a?", read(0, "a|[bc]+a?"), 14);
        due("aab", read(1, "a(ab)"), 8);
        due("like (ab)c", read(1, "(a(b))(((c)))"), 8);
        dueSaid(1, "abc");
        due("a chain within a chain", read(1, "(ab)(bc)(ca)"), 17);
        dueSaid(1, "abbcca");
        due("chains within chains", read(1, "((ab)c)((ab)c)"), 17);
        dueSaid(1, "abcabc");
        due("a repeated chain stays", read(1, "(ab)+c"), 10);
        dueSaid(1, "(ab)+c");
        due("choices to the right", read(2, "a|(b|c)"), 10);
        dueSaid(2, "a|b|c");
        due("choices to the left", read(2, "(a|b)|c"), 10);
        dueSaid(2, "(a|b)|c");
        due("a wrong place", read(10, "a"), BAD);
        due("the tape stays", x.count(3), 1);
        due("a wrong place", x.read(-1), BAD);
        due("read(9)", x.read(9), 2);
        due("TOO MUCH", read(2, "aaaaaaa"), -1000);
        due("and the tape is empty", x.count(3), 0);
        dueSaid(2, "(a|b)|c");
        due("a fault", read(2, "ab+)"), -103);
        due("and the tape is empty", x.count(3), 0);
        dueSaid(2, "(a|b)|c");
        due("12 nodes", read(2, "a+++++++++++"), 24);
        due("12 nodes", x.about(2, 1), 12);
        due("13 nodes", read(2, "a++++++++++++"), -1000);
        due("parentheses are no nodes", read(3, "((((((a))))))" + "?".repeat(11)), 24);
        due("a fault behind too much", read(3, "a".repeat(58) + "|"), -159);
        due("a class of one", read(3, "[b]"), 3);
        due("a class of c", read(3, "[ac]"), 3);
        dueSaid(3, "[ac]");
    }

    private void faults() {
        begin("3 read: faults");
        String[] texts = {"", "|", "a|", "a||b", "(", "()", "(a", "(a|", "(a|)", ")", "a)", "(a))", "[", "[]", "[a", "[aa]",
            "[ba]", "[cb", "[abc", "[abca]", "[d]", "[ab)", "+", "?a", "a|+", "(+)", "d", "A", " ", "a b", "]", "a]", "a+|?",
            "((((((a", "(((((((a)))))))", "a((((((b)(", "((((((a))))))((((((((", "(a)(b)(c)(a)(b)(c)(a)(b))", "[a]]", "[[a]",
            "a++?+)", "ab|cd", "a\0"};
        int[] at = {0, 0, 2, 2, 1, 1, 2, 3, 3, 0, 1, 3, 1, 1, 2, 2,
            2, 2, 4, 4, 1, 3, 0, 0, 2, 1, 0, 0, 0, 1, 0, 1, 3,
            7, 6, 10, 19, 24, 3, 1,
            5, 4, 1};
        for (int i = 0; i < texts.length; i++) {
            due(texts[i], read(0, texts[i]), -100 - at[i]);
            due("the model: " + texts[i], Text.fault(texts[i]), at[i]);
        }
        due("none of these came", x.count(0), 0);
        due("60 open", read(0, "(".repeat(60)), -106);
        due("60 bytes, too early", read(0, "a".repeat(59) + "|"), -160);
    }

    private void saying() {
        begin("4 say");
        String[] texts = {"a", "[abc]", "[b]", "ab", "a|b", "(a|b)c", "a(b|c)", "(a|b)(b|c)", "(ab)+", "(a|b)?", "a+?+", "[ab]+?",
            "ab|c", "a|bc", "(a|b)|(b|c)|a", "(ab|c)+a", "((a|b)|c)+", "a+b?", "((ab)+c)?"};
        for (String text : texts) {
            read(0, text);
            dueSaid(0, text);
            due(text, x.say(0, -1), text.length());
            due(text, x.say(0, text.length()), BAD);
        }
        read(0, "((a)+)((b|c))");
        dueSaid(0, "a+(b|c)");
        due("at -2", x.say(0, -2), BAD);
        due("at least", x.say(0, Integer.MIN_VALUE), BAD);
        due("at most", x.say(0, Integer.MAX_VALUE), BAD);
        due("an empty place", x.say(1, -1), BAD);
        due("no place", x.say(10, -1), BAD);
        due("no place", x.say(-1, 0), BAD);
    }

    private void dropping() {
        begin("5 drop");
        due("an empty place", x.drop(0), BAD);
        read(0, "a");
        read(9, "b");
        due("drop(9)", x.drop(9), 1);
        due("drop(9) again", x.drop(9), BAD);
        due("say", x.say(9, -1), BAD);
        due("the other stays", x.count(0), 1);
        due("no place", x.drop(10), BAD);
        due("no place", x.drop(-1), BAD);
    }

    private void telling() {
        begin("6 about");
        read(0, "(a|[bc])+a?");
        due("cost", x.about(0, 0), 14);
        due("nodes", x.about(0, 1), 7);
        due("how many, cost 14", x.about(0, 2), NOT);
        due("which, cost 14", x.about(0, 3), NOT);
        due("what 4", x.about(0, 4), BAD);
        due("what -1", x.about(0, -1), BAD);
        due("an empty place", x.about(1, 0), BAD);
        due("no place", x.about(10, 2), BAD);
        int[] sizes = {3, 7, 6, 23, 63, 173, 406, 1115, 3141};
        for (int cost = 2; cost <= 10; cost++) {
            x.nth(2, cost, sizes[cost - 2] - 1);
            due("how many of cost " + cost, x.about(2, 2), sizes[cost - 2]);
            due("the last of cost " + cost, x.about(2, 3), sizes[cost - 2] - 1);
        }
        read(3, "aaab");
        due("cost 11", x.about(3, 0), 11);
        due("how many of 11", x.about(3, 2), NOT);
        read(3, "b|c");
        due("b|c", x.about(3, 3), 42 + 5);
        read(3, "c+?");
        due("c+?", x.about(3, 3), 63 - 6 + 2);
    }

    private void nth() {
        begin("7 nth");
        String[] first = {"a", "[a]", "a+", "aa", "a[a]"};
        for (int cost = 2; cost <= 6; cost++) {
            x.nth(0, cost, 0);
            dueSaid(0, first[cost - 2]);
        }
        due("c", x.nth(0, 2, 2), 1);
        dueSaid(0, "c");
        due("[abc]", x.nth(0, 3, 6), 1);
        dueSaid(0, "[abc]");
        due("AGAIN ahead of MAYBE", x.nth(0, 4, 3), 2);
        dueSaid(0, "a?");
        x.nth(0, 5, 8);
        dueSaid(0, "cc");
        x.nth(0, 6, 21);
        dueSaid(0, "[a]a");
        x.nth(0, 6, 42);
        dueSaid(0, "a|a");
        due("a place that is used", x.count(0), 1);
        due("no place", x.nth(10, 2, 0), BAD);
        due("cost 1", x.nth(0, 1, 0), BAD);
        due("cost 11", x.nth(0, 11, 0), BAD);
        due("number -1", x.nth(0, 5, -1), BAD);
        due("number 3", x.nth(0, 2, 3), BAD);
        dueSaid(0, "a|a");
    }

    private void fitting() {
        begin("8 fits");
        read(0, "(a|[bc]c)+b?");
        String[] in = {"a", "ab", "bc", "cc", "bcb", "abcacc", "aaaaaaaaaaab", "bcbcbcbcbcbc"};
        String[] not = {"", "b", "c", "ba", "abb", "acb", "aaaaaaaaaabb"};
        for (String row : in) {
            due(row, x.fits(0, number(row)), 1);
        }
        for (String row : not) {
            due(row, x.fits(0, number(row)), 0);
        }
        read(1, "(a?b?)+");
        due("the empty row", x.fits(1, 1), 1);
        due("ba", x.fits(1, number("ba")), 1);
        due("bca", x.fits(1, number("bca")), 0);
        for (int row : new int[] {0, -1, 2, 6, 7, 8, 18, 26, 2 * 531441, 3 * 531441, Integer.MAX_VALUE, Integer.MIN_VALUE}) {
            due("row " + row, x.fits(1, row), BAD);
        }
        due("the last row", x.fits(1, 2 * 531441 - 1), 0);
        due("an empty place", x.fits(2, 1), BAD);
        due("no place", x.fits(10, 1), BAD);
    }

    private void comingOut() {
        begin("9 out");
        read(0, "a+b?");
        due("the first beginning", x.out(0, number("cabaab")), 102);
        due("the longest", x.out(0, number("caaaba")), 104);
        due("at 0", x.out(0, number("a")), 1);
        due("nothing", x.out(0, number("bcb")), NOT);
        due("the empty row", x.out(0, 1), NOT);
        due("12 letters", x.out(0, number("bbbbbbbbbbba")), 1101);
        due("all 12", x.out(0, number("aaaaaaaaaaab")), 12);
        read(1, "b?");
        due("no empty part", x.out(1, number("aab")), 201);
        due("nothing but empty parts", x.out(1, number("aca")), NOT);
        read(2, "a|abc");
        due("longer behind what does not fit", x.out(2, number("cabc")), 103);
        due("row 2", x.out(2, 2), BAD);
        due("an empty place", x.out(3, 3), BAD);
        due("no place", x.out(-1, 3), BAD);
    }

    private void counting() {
        begin("10 many");
        read(0, "[abc]+");
        due("none of 0", x.many(0, 0), 0);
        due("all of 1", x.many(0, 1), 3);
        due("all of 12", x.many(0, 12), 531441);
        read(1, "(a|a|ab|b)?");
        due("each once", x.many(1, 1), 2);
        due("the empty one", x.many(1, 0), 1);
        due("of 2", x.many(1, 2), 1);
        due("of 3", x.many(1, 3), 0);
        read(2, "(a|b)+a[ab][ab]");
        due("of 12", x.many(2, 12), 2048);
        due("length 13", x.many(2, 13), BAD);
        due("length -1", x.many(2, -1), BAD);
        due("an empty place", x.many(3, 1), BAD);
        due("no place", x.many(10, 1), BAD);
    }

    private void rows() {
        begin("11 row");
        read(0, "[ac](b|c)?");
        int[] due = {number("ab"), number("ac"), number("cb"), number("cc")};
        for (int i = 0; i < due.length; i++) {
            due("row " + i, x.row(0, 2, i), due[i]);
        }
        due("none such", x.row(0, 2, 4), BAD);
        due("i -1", x.row(0, 2, -1), BAD);
        due("none of that length", x.row(0, 0, 0), BAD);
        read(1, "[abc]+?");
        due("the empty row", x.row(1, 0, 0), 1);
        for (int i : new int[] {0, 1, 2, 3, 100000, 531440}) {
            due("row " + i + " of 12", x.row(1, 12, i), 531441 + i);
        }
        due("one too many", x.row(1, 12, 531441), BAD);
        due("length 13", x.row(1, 13, 0), BAD);
        due("length -1", x.row(1, -1, 0), BAD);
        due("an empty place", x.row(2, 1, 0), BAD);
        due("no place", x.row(10, 1, 0), BAD);
    }

    private void comparing() {
        begin("12 alike");
        String[] a = {"[ab]", "a|b", "(ab)c", "(a?)+", "a+?", "(a|b)+", "(aa)+|(aaa)+", "a(ba)+", "[a]"};
        String[] b = {"b|a", "[ab]", "a(bc)", "a?+", "(a?)+", "(a?b?)+", "(aa|aaa)+", "(ab)+a", "a"};
        int[] due = {1, 1, 1, 1, 1, 0, 0, 1, 1};
        for (int i = 0; i < a.length; i++) {
            read(0, a[i]);
            read(1, b[i]);
            due(a[i] + " and " + b[i], x.alike(0, 1), due[i]);
            due(b[i] + " and " + a[i], x.alike(1, 0), due[i]);
        }
        due("itself", x.alike(0, 0), 1);
        due("an empty place", x.alike(0, 2), BAD);
        due("an empty place", x.alike(2, 0), BAD);
        due("no place", x.alike(10, 0), BAD);
        due("no place", x.alike(0, -1), BAD);
    }

    private void parting() {
        begin("13 parted");
        String[] a = {"a", "a?", "a+", "b|c", "[ab]c", "(aa)+|(aaa)+", "baaaab", "(a|b)+a"};
        String[] b = {"b", "a", "a", "c", "[ab][bc]", "(aa|aaa)+", "(baaaab)+", "(a|b)+b"};
        String[] row = {"a", "", "aa", "b", "ab", "aaaaa", "baaaabbaaaab", "aa"};
        for (int i = 0; i < a.length; i++) {
            read(0, a[i]);
            read(1, b[i]);
            due(a[i] + " and " + b[i], x.parted(0, 1), number(row[i]));
            due(b[i] + " and " + a[i], x.parted(1, 0), number(row[i]));
        }
        read(0, "[ab]");
        read(1, "b|a");
        due("alike", x.parted(0, 1), NOT);
        due("itself", x.parted(0, 0), NOT);
        due("an empty place", x.parted(0, 2), BAD);
        due("an empty place", x.parted(2, 0), BAD);
        due("no place", x.parted(10, 0), BAD);
        due("no place", x.parted(0, -1), BAD);
    }

    private void inside() {
        begin("14 inside");
        String[] a = {"a", "a+", "abc", "a?", "(ab)+", "[ab]", "a|b"};
        String[] b = {"a+", "a", "[abc]+", "a+", "(a|b)+", "b|a", "[b]|b"};
        int[] there = {1, 0, 1, 0, 1, 1, 0};
        int[] back = {0, 1, 0, 0, 0, 1, 1};
        for (int i = 0; i < a.length; i++) {
            read(0, a[i]);
            read(1, b[i]);
            due(a[i] + " in " + b[i], x.inside(0, 1), there[i]);
            due(b[i] + " in " + a[i], x.inside(1, 0), back[i]);
        }
        due("itself", x.inside(0, 0), 1);
        due("an empty place", x.inside(0, 2), BAD);
        due("an empty place", x.inside(2, 0), BAD);
        due("no place", x.inside(10, 0), BAD);
        due("no place", x.inside(0, -1), BAD);
    }

    private void showing() {
        begin("15 show");
        int abc = number("abc");
        due("row 0", x.show(0, 1, 0, 1), BAD);
        due("row 2", x.show(2, 1, 0, 1), BAD);
        due("7 letters", x.show(number("aaaaaaa"), 1, 0, 1), BAD);
        due("said -1", x.show(abc, -1, 0, 1), BAD);
        due("said 4", x.show(abc, 4, 0, 1), BAD);
        due("price 0", x.show(abc, 1, 0, 0), BAD);
        due("price 100", x.show(abc, 1, 0, 100), BAD);
        for (int said : new int[] {0, 1, 3}) {
            due("a part of said " + said, x.show(abc, said, 1, 1), BAD);
        }
        for (int part : new int[] {0, 4, 10, 13, 22, 30, 31, -1, -9, 9, 19, Integer.MAX_VALUE, Integer.MIN_VALUE}) {
            due("part " + part, x.show(abc, 2, part, 1), BAD);
        }
        due("a part of the empty row", x.show(1, 2, 1, 1), BAD);
        due("nothing came", x.count(1), 0);
        int i = 0;
        for (int part : new int[] {1, 2, 3, 11, 12, 21}) {
            due("part " + part, x.show(abc, 2, part, 1), i++);
        }
        due("6 letters", x.show(number("cccccc"), 2, 6, 99), i++);
        due("6 letters", x.show(number("cccccc"), 2, 51, 99), i++);
        for (int said : new int[] {0, 1, 3}) {
            due("the empty row, said " + said, x.show(1, said, 0, 1), i++);
        }
        while (i < 20) {
            due("show", x.show(abc, 1, 0, 1), i++);
        }
        due("the 21st", x.show(abc, 1, 0, 1), FULL);
        due("BAD ahead of FULL", x.show(abc, 1, 0, 0), BAD);
        due("count(1)", x.count(1), 20);
    }

    private void takingBack() {
        begin("16 back");
        due("none yet", x.back(0, 1), BAD);
        x.show(3, 1, 0, 1);
        x.show(4, 1, 0, 1);
        due("taken back", x.back(1, 1), 0);
        due("again", x.back(1, 1), 1);
        due("count(2)", x.count(2), 1);
        due("the other", x.back(0, 0), 0);
        due("not any more", x.back(1, 0), 1);
        due("again", x.back(1, 0), 0);
        due("count(2)", x.count(2), 0);
        due("no showing", x.back(2, 1), BAD);
        due("no showing", x.back(-1, 1), BAD);
        due("is 2", x.back(0, 2), BAD);
        due("is -1", x.back(0, -1), BAD);
        due("showing 32", x.back(32, 1), BAD);
    }

    private void agreeing() {
        begin("17 agrees");
        read(0, "ab+");
        String[] rows = {"ab", "ab", "cabb", "cabb", "cabb", "ba", "cab", "", "", "", "abbbbb", "caab"};
        int[] said = {1, 0, 2, 2, 2, 3, 3, 1, 0, 3, 1, 2};
        int[] part = {0, 0, 13, 12, 3, 0, 0, 0, 0, 0, 0, 22};
        int[] due = {1, 0, 1, 0, 0, 1, 0, 0, 1, 1, 1, 1};
        for (int i = 0; i < rows.length; i++) {
            x.show(number(rows[i]), said[i], part[i], 1);
            due(rows[i] + ", said " + said[i], x.agrees(0, i), due[i]);
        }
        x.back(1, 1);
        due("taken back or not", x.agrees(0, 1), 0);
        x.back(0, 1);
        due("taken back or not", x.agrees(0, 0), 1);
        read(1, "a?");
        due("what fits the empty row", x.agrees(1, 7), 1);
        due("gives nothing of it all the same", x.agrees(1, 9), 1);
        due("no showing", x.agrees(0, rows.length), BAD);
        due("no showing", x.agrees(0, -1), BAD);
        due("an empty place", x.agrees(2, 0), BAD);
        due("no place", x.agrees(10, 0), BAD);
    }

    private void paying() {
        begin("18 paid");
        read(0, "a");
        due("no showings", x.paid(0), 0);
        x.show(3, 1, 0, 5);
        due("agreed", x.paid(0), 0);
        x.show(3, 0, 0, 7);
        x.show(4, 1, 0, 99);
        x.show(number("bab"), 2, 1, 20);
        due("three not", x.paid(0), 126);
        x.back(2, 1);
        due("one of them taken back", x.paid(0), 27);
        x.back(0, 1);
        due("one agreed taken back", x.paid(0), 27);
        x.back(2, 0);
        due("not any more", x.paid(0), 126);
        due("an empty place", x.paid(1), BAD);
        due("no place", x.paid(10), BAD);
    }

    private void finding() {
        begin("19 find");
        due("the first of all", x.find(0, 63, 10), 2);
        dueSaid(0, "a");
        x.show(number("ab"), 1, 0, 1);
        x.show(number("abab"), 1, 0, 1);
        x.show(number("aba"), 0, 0, 1);
        x.show(number("aa"), 0, 0, 1);
        due("what is shown", x.find(1, 63, 10), 7);
        dueSaid(1, "(ab)+");
        due("not by kinds", x.find(1, 63 & ~16, 10), NOT);
        dueSaid(1, "(ab)+");
        due("and none found", x.found(), 0);
        due("and none next", x.next(1), NOT);
        due("not by cost", x.find(1, 63, 6), NOT);
        due("just by cost", x.find(2, 21, 7), 7);
        dueSaid(2, "(ab)+");
        due("found()", x.found(), 1);
        due("no place", x.find(10, 63, 10), BAD);
        due("no place", x.find(-1, 63, 10), BAD);
        for (int kinds : new int[] {0, 64, -1, 65, Integer.MIN_VALUE}) {
            due("kinds " + kinds, x.find(0, kinds, 10), BAD);
        }
        for (int cost : new int[] {1, 11, 0, -2, Integer.MAX_VALUE}) {
            due("cost " + cost, x.find(0, 63, cost), BAD);
        }
        due("what is BAD begins no search", x.found(), 1);
        dueSaid(0, "a");
    }

    private void nextOnes() {
        begin("20 next, 21 found");
        due("before any search", x.next(0), BAD);
        x.open(63, 10);
        x.ask(63, 10);
        x.noise(0, 63, 10);
        due("before any search", x.next(0), BAD);
        due("found()", x.found(), 0);
        String[] meanings = {"a", "b", "c", "[ab]", "[ac]", "[bc]", "[abc]", "a+", "b+", "c+", "a?", "b?", "c?", "aa", "ab"};
        for (int i = 0; i < meanings.length; i++) {
            int cost = i == 0 ? x.find(0, 63, 10) : x.next(0);
            due("cost of " + meanings[i], cost, x.about(0, 0));
            dueSaid(0, meanings[i]);
            due("found()", x.found(), i + 1);
        }
        due("no place", x.next(10), BAD);
        due("no place", x.next(-1), BAD);
        due("found() stays", x.found(), meanings.length);
        due("a new search", x.find(1, 2, 3), 3);
        dueSaid(1, "[a]");
        for (int i = 2; i <= 7; i++) {
            due("next class", x.next(1), 3);
        }
        due("the end", x.next(2), NOT);
        due("the place stays", x.about(2, 0), BAD);
        due("and again", x.next(1), NOT);
        dueSaid(1, "[abc]");
        due("found()", x.found(), 7);
        x.find(3, 63, 8);
        int found = 1;
        while (x.next(3) > 0) {
            found++;
        }
        due("each meaning once", found, x.open(63, 8));
        due("found()", x.found(), found);
    }

    private void searchesAndShowings() {
        begin("20 next: showings meanwhile");
        x.find(0, 63, 10);
        x.show(number("b"), 0, 0, 1);
        due("told meanwhile", x.next(0), 2);
        dueSaid(0, "c");
        x.back(0, 1);
        due("what is behind stays behind", x.next(0), 3);
        dueSaid(0, "[b]");
        x.show(number("b"), 1, 0, 1);
        due("told meanwhile", x.next(0), 3);
        dueSaid(0, "[ab]");
        x.show(number("cc"), 1, 0, 1);
        due("cc too", x.next(0), 5);
        dueSaid(0, "[bc]+");
        x.show(1, 1, 0, 1);
        x.show(1, 0, 0, 1);
        due("nothing agrees", x.next(0), NOT);
        x.back(4, 1);
        due("the search is at its end", x.next(0), NOT);
        due("found()", x.found(), 5);
    }

    private void open() {
        begin("22 open");
        due("letters", x.open(1, 10), 3);
        due("letters and classes", x.open(3, 10), 7);
        due("by cost", x.open(63, 2), 3);
        due("no pattern", x.open(4, 10), 0);
        due("rows", x.open(5, 10), 39);
        due("choices of letters", x.open(9, 10), 7);
        x.show(1, 1, 0, 1);
        due("with the empty row", x.open(63, 4), 3);
        x.back(0, 1);
        due("taken back", x.open(63, 4), 13);
        x.back(0, 0);
        due("not any more", x.open(63, 4), 3);
        x.show(1, 0, 0, 1);
        due("nothing agrees", x.open(63, 10), 0);
        due("kinds 0", x.open(0, 10), BAD);
        due("kinds 64", x.open(64, 10), BAD);
        due("cost 1", x.open(63, 1), BAD);
        due("cost 11", x.open(63, 11), BAD);
    }

    private void asking() {
        begin("23 ask, 24 asked");
        due("letters", x.ask(1, 5), number("a"));
        due("asked()", x.asked(), 1);
        due("classes", x.ask(2, 3), number("a"));
        due("asked()", x.asked(), 4);
        due("BAD", x.ask(0, 3), BAD);
        due("BAD", x.ask(64, 3), BAD);
        due("BAD", x.ask(1, 1), BAD);
        due("BAD", x.ask(1, 11), BAD);
        due("asked() stays", x.asked(), 4);
        x.open(1, 5);
        due("asked() stays", x.asked(), 4);
        x.show(number("a"), 1, 0, 1);
        due("a is known: b parts", x.ask(2, 3), number("b"));
        due("asked()", x.asked(), 2);
        due("one meaning alone", x.ask(1, 5), NOT);
        due("asked()", x.asked(), 0);
        due("no pattern", x.ask(4, 5), NOT);
        x.show(number("b"), 0, 0, 1);
        x.show(number("c"), 0, 0, 1);
        due("a, a+ or a?: the empty row is first", x.ask(63, 4), 1);
        due("asked()", x.asked(), 1);
        x.show(1, 0, 0, 1);
        due("a or a+", x.ask(63, 4), number("aa"));
        due("asked()", x.asked(), 1);
        x.show(number("aa"), 0, 0, 1);
        x.show(number("aaa"), 0, 0, 1);
        due("parted by rows of 4 letters alone, or of 1 meaning", x.ask(17, 10), NOT);
    }

    private void noise() {
        begin("25 noise");
        due("no showings", x.noise(0, 63, 10), 2);
        dueSaid(0, "a");
        due("kinds that have no pattern", x.noise(0, 4, 10), NOT);
        due("no class of cost 2", x.noise(0, 2, 2), NOT);
        dueSaid(0, "a");
        x.show(number("b"), 1, 0, 1);
        due("as dear", x.noise(1, 1, 10), 2);
        dueSaid(1, "b");
        x.show(number("cc"), 1, 0, 3);
        x.show(number("c"), 0, 0, 2);
        due("rather paid than met", x.noise(1, 63, 10), 5);
        dueSaid(1, "b");
        x.back(1, 1);
        x.back(0, 1);
        due("of several the first", x.noise(1, 63, 10), 2);
        dueSaid(1, "a");
        x.back(1, 0);
        x.show(number("cc"), 1, 0, 99);
        due("met", x.noise(2, 63, 10), 5);
        dueSaid(2, "cc");
        due("paid", x.paid(2), 0);
        due("by cost", x.noise(2, 63, 4), 6);
        dueSaid(2, "c+");
        due("paid", x.paid(2), 2);
        due("the search is another one", x.found(), 0);
        due("no place", x.noise(10, 63, 10), BAD);
        due("kinds 0", x.noise(0, 0, 10), BAD);
        due("kinds 64", x.noise(0, 64, 10), BAD);
        due("cost 1", x.noise(0, 63, 1), BAD);
        due("cost 11", x.noise(0, 63, 11), BAD);
    }

    private void counts() {
        begin("26 count");
        read(0, "a");
        read(5, "a");
        read(5, "b");
        x.show(3, 1, 0, 1);
        x.show(3, 1, 0, 1);
        x.show(3, 0, 0, 1);
        x.back(1, 1);
        feed("ab|c");
        due("patterns", x.count(0), 2);
        due("showings", x.count(1), 3);
        due("taken back", x.count(2), 1);
        due("bytes", x.count(3), 4);
        x.find(7, 63, 10);
        due("none found for what is shown and not", x.count(0), 2);
        due("what 4", x.count(4), BAD);
        due("what -1", x.count(-1), BAD);
        x.drop(0);
        due("patterns", x.count(0), 1);
    }
}
