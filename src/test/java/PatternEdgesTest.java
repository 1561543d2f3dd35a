import java.util.List;

/** The edges of promises 1 to 7: a test for each sentence that names one. */
public final class PatternEdgesTest extends Bench {
    /** 60 bytes, 7 nodes: the longest text that THE TAPE can hold. */
    private static final String SIXTY = "(((((([abc]))))))".repeat(3) + "((((b))))";
    private static final int SIXTY_COST = 14;

    public static void main(String[] args) {
        new PatternEdgesTest().all();
    }

    private void all() {
        newObjectHasNoPatterns();
        newObjectHasNoShowings();
        newObjectHasEmptyTape();
        newObjectHasNoSearch();
        memoryIsOwn();
        feedTakesOneToFour();
        feedTakesLowestFirst();
        feedTakesAnyByte();
        tapeHoldsSixty();
        fullFeedTakesNothing();
        badFeedAheadOfFull();
        readNeedsPlace();
        badReadLeavesTape();
        readEmptiesTape();
        readReplaces();
        faultLeavesPlace();
        faultLeavesNothing();
        tooMuchLeavesPlace();
        twelveNodesAtMost();
        faultAheadOfTooMuch();
        faultIsFirstByteThatCannotGoOn();
        seventhParenthesis();
        endsTooEarly();
        classRises();
        choicesGoRight();
        chainsGoRight();
        chainsAreTakenApart();
        repeatsTakeWhatIsAhead();
        costs();
        sayTellsLength();
        sayTellsBytes();
        saidParentheses();
        saidOfTwelveNodes();
        saidIsReadBack();
        dropEmpties();
        dropOfEmpty();
        aboutWhats();
        aboutUpToTen();
        aboutOfEmpty();
        nthCosts();
        nthNumbers();
        nthOrder();
        check.end();
    }

    // ---- 1 a new object

    private void newObjectHasNoPatterns() {
        begin("1 new object, \"No patterns\"");
        due("count(0)", x.count(0), 0);
        for (int place = 0; place < 10; place++) {
            due("say", x.say(place, -1), BAD);
            due("drop", x.drop(place), BAD);
            due("fits", x.fits(place, 1), BAD);
            due("alike", x.alike(place, place), BAD);
            due("paid", x.paid(place), BAD);
        }
    }

    private void newObjectHasNoShowings() {
        begin("1 new object, \"no showings\"");
        due("count(1)", x.count(1), 0);
        due("count(2)", x.count(2), 0);
        due("back", x.back(0, 0), BAD);
        due("open, all letters", x.open(1, 2), 3);
        read(0, "a");
        due("agrees", x.agrees(0, 0), BAD);
        due("paid", x.paid(0), 0);
    }

    private void newObjectHasEmptyTape() {
        begin("1 new object, \"an empty TAPE\"");
        due("count(3)", x.count(3), 0);
        due("read", x.read(0), -100);
    }

    private void newObjectHasNoSearch() {
        begin("1 new object, no search and no ask yet");
        due("next", x.next(0), BAD);
        due("found", x.found(), 0);
        due("asked", x.asked(), 0);
    }

    private void memoryIsOwn() {
        begin("1 new object, \"All memory is the class's own\"");
        ShownPatterns first = x;
        read(0, "ab");
        shall("ab");
        x.find(1, ALL_KINDS, 10);
        x.ask(ALL_KINDS, 10);
        x.feed(1, 'a');
        renew();
        for (int what = 0; what <= 3; what++) {
            due("another object's count(" + what + ")", x.count(what), 0);
        }
        due("another object's found", x.found(), 0);
        due("another object's open", x.open(ALL_KINDS, 4), 13);
        read(0, "cc");
        shallNot("ab");
        x.find(1, ALL_KINDS, 2);
        x = first;
        dueSaid(0, "ab");
        due("the first one's showings", x.count(1), 1);
        due("the first one's tape", x.count(3), 1);
        due("the first one's search", x.next(2), 5);
        dueSaid(2, "[ab]+");
        due("the first one's showing", x.agrees(0, 0), 1);
    }

    // ---- 2 feed

    private void feedTakesOneToFour() {
        begin("2 feed, \"n (1 .. 4)\"");
        for (int n : new int[] {0, 5, -1, 8, LEAST, MOST}) {
            due("n " + n, x.feed(n, 'a'), BAD);
        }
        due("nothing came", x.count(3), 0);
        due("n 1", x.feed(1, 0x61616161), 1);
        due("n 2", x.feed(2, 0x61616161), 3);
        due("n 3", x.feed(3, 0x61616161), 6);
        due("n 4", x.feed(4, 0x61616161), 10);
    }

    private void feedTakesLowestFirst() {
        begin("2 feed, \"the lowest of v first\"");
        x.feed(4, 'a' | 'b' << 8 | 'c' << 16 | '+' << 24);
        x.read(0);
        dueSaid(0, "abc+");
        x.feed(2, 'c' | 'b' << 8 | '(' << 16 | '(' << 24);
        due("what is above the n bytes does not come", x.read(0), 5);
        dueSaid(0, "cb");
    }

    private void feedTakesAnyByte() {
        begin("2 feed, bytes are 0 .. 255");
        due("four of 255", x.feed(4, -1), 4);
        due("are a fault at once", x.read(0), -100);
        x.feed(4, 'a' | 'b' << 8 | 'c' << 16 | 0xE1 << 24);
        due("255 - 30 is no letter", x.read(0), -103);
        x.feed(2, 'a');
        due("a byte of 0 counts", x.read(0), -101);
    }

    private void tapeHoldsSixty() {
        begin("2 feed, THE TAPE has \"at most 60 bytes\"");
        for (int n = 1; n <= 4; n++) {
            renew();
            feed(SIXTY.substring(0, 60 - n));
            due("one more than fits, n " + n, n == 4 ? FULL : x.feed(n + 1, 0x61616161), FULL);
            due("just what fits, n " + n, x.feed(n, 0x61616161), 60);
            for (int more = 1; more <= 4; more++) {
                due("more on 60 bytes, n " + more, x.feed(more, 0x61616161), FULL);
            }
        }
        renew();
        due("60 bytes are read", read(0, SIXTY), SIXTY_COST);
        feed(SIXTY);
        due("THE TAPE takes 60 again", x.count(3), 60);
    }

    private void fullFeedTakesNothing() {
        begin("2 feed, FULL changes nothing");
        feed(SIXTY.substring(0, 57));
        due("FULL", x.feed(4, 0x61616161), FULL);
        due("count(3)", x.count(3), 57);
        due("the rest", x.feed(3, SIXTY.charAt(57) | SIXTY.charAt(58) << 8 | SIXTY.charAt(59) << 16), 60);
        due("FULL", x.feed(1, '+'), FULL);
        due("the text is what came", x.read(0), SIXTY_COST);
        dueSaid(0, "[abc][abc][abc]b");
    }

    private void badFeedAheadOfFull() {
        begin("2 feed, BAD ahead of FULL");
        feed(SIXTY);
        for (int n : new int[] {0, 5, -1, LEAST, MOST}) {
            due("n " + n, x.feed(n, 'a'), BAD);
        }
        due("n 1", x.feed(1, 'a'), FULL);
    }

    // ---- 3 read

    private void readNeedsPlace() {
        begin("3 read, \"PLACES 0 .. 9\"");
        for (int place : NO_PLACES) {
            due("place " + place, read(place, "a"), BAD);
            renew();
        }
        for (int place = 0; place < 10; place++) {
            due("place " + place, read(place, "a"), 2);
        }
        due("all held", x.count(0), 10);
    }

    private void badReadLeavesTape() {
        begin("3 read, BAD changes nothing");
        feed("ab");
        due("BAD", x.read(10), BAD);
        due("count(3)", x.count(3), 2);
        due("BAD with a fault", x.read(-1), BAD);
        due("then read", x.read(0), 5);
        dueSaid(0, "ab");
    }

    private void readEmptiesTape() {
        begin("3 read, \"THE TAPE is empty then\"");
        for (String text : new String[] {"a", "a|", "", "aaaaaaa"}) {
            read(0, text);
            due("behind \"" + text + "\"", x.count(3), 0);
            due("the next text is alone", read(0, "bc"), 5);
        }
    }

    private void readReplaces() {
        begin("3 read, \"THE TAPE becomes the PATTERN of a place\"");
        read(4, "aaaaaa+");
        due("a smaller one", read(4, "b"), 2);
        dueSaid(4, "b");
        due("one node", x.about(4, 1), 1);
        due("one place", x.count(0), 1);
    }

    private void faultLeavesPlace() {
        begin("3 read, a FAULT gives no PATTERN");
        due("to an empty place", read(0, "ab)"), -102);
        due("it stays empty", x.say(0, -1), BAD);
        due("none came", x.count(0), 0);
        read(0, "a|b");
        due("to one that is held", read(0, "ab)"), -102);
        dueSaid(0, "a|b");
    }

    private void faultLeavesNothing() {
        begin("3 read, a FAULT leaves nothing to the next TEXT");
        for (int i = 0; i < 4; i++) {
            due("59 letters and a fault", read(0, "a".repeat(59) + "("), -160);
            due("30 choices and a fault", read(0, "a|".repeat(29) + ")"), -158);
            due("too much", read(0, "a".repeat(60)), -1000);
        }
        due("the next text", read(0, "(ab|c)(a|b)c"), 19);
        dueSaid(0, "(ab|c)(a|b)c");
    }

    private void tooMuchLeavesPlace() {
        begin("3 read, TOO MUCH \"(the place stays, then)\"");
        due("to an empty place", read(0, "aaaaaaa"), -1000);
        due("it stays empty", x.say(0, -1), BAD);
        read(0, "a|b");
        due("to one that is held", read(0, "aaaaaaa"), -1000);
        dueSaid(0, "a|b");
    }

    private void twelveNodesAtMost() {
        begin("3 read, \"more than 12 NODES is TOO MUCH\"");
        String[] most = {"aaaaaa+", "a|a|a|a|a|a?", "a" + "+".repeat(11), "[abc]" + "?".repeat(11), "(aaaaa|a)+",
            "((((((a))))))" + "+?".repeat(5) + "+", "(ab)(cab)a?", "[abc][abc][abc][abc][abc][abc]+"};
        for (String text : most) {
            due(text, read(0, text) > 0);
            due("nodes of " + text, x.about(0, 1), 12);
            due("one more: " + text, read(1, text + "+"), -1000);
            due("two more: " + text, read(1, text + "b"), -1000);
        }
        due("13 nodes of 7 letters", read(1, "abcabca"), -1000);
        due("60 letters", read(1, "a".repeat(60)), -1000);
        due("59 repeats", read(1, "a" + "?".repeat(59)), -1000);
        due("30 choices", read(1, "a" + "|a".repeat(29)), -1000);
    }

    private void faultAheadOfTooMuch() {
        begin("3 read, TOO MUCH is \"a TEXT without FAULT\"");
        due("a fault behind 13 nodes", read(0, "aaaaaaa)"), -107);
        due("ends too early behind 13 nodes", read(0, "aaaaaaa|"), -108);
        due("the 60th byte", read(0, "a".repeat(59) + "]"), -159);
    }

    private void faultIsFirstByteThatCannotGoOn() {
        String[] ahead = {"", "a", "(", "(a", "(a)", "a+", "a?", "a|", "(a|", "ab", "a(", "[", "[a", "[b", "[c", "[ab", "[ac",
            "[bc", "[abc", "[a]", "([", "((((((", "((((((a", "((((((a)", "((((((a|", "(((((", "((((((a))))))"};
        String[] goOn = {"abc[(", "abc[(+?|", "abc[(", "abc[(+?|)", "abc[(+?|", "abc[(+?|", "abc[(+?|", "abc[(", "abc[(",
            "abc[(+?|", "abc[(", "abc", "bc]", "c]", "]", "c]", "]",
            "]", "]", "abc[(+?|", "abc", "abc[", "abc[+?|)", "abc[(+?|)", "abc[", "abc[(", "abc[(+?|"};
        begin("3 read, FAULT \"the first byte with which no TEXT goes on\"");
        for (int i = 0; i < ahead.length; i++) {
            for (int sign = 0; sign < 256; sign++) {
                if (sign % 64 == 0) {
                    renew();
                }
                goesOn(ahead[i], (char) sign, goOn[i].indexOf(sign) >= 0);
            }
        }
    }

    private void goesOn(String ahead, char sign, boolean does) {
        String text = ahead + sign;
        if (!does) {
            due("\"" + ahead + "\" and " + (int) sign, read(0, text + "a"), -100 - ahead.length());
            return;
        }
        int answer = read(0, text);
        due("\"" + text + "\" goes on: " + answer, answer > 0 || answer == -100 - text.length());
    }

    private void seventhParenthesis() {
        begin("3 read, FAULT \"of the 7th ( that would be open, too\"");
        due("six open", read(0, "((((((a))))))"), 2);
        due("seven open", read(0, "(((((((a)))))))"), -106);
        due("six, closed, and six again", read(0, "((((((a))))))((((((b))))))"), 5);
        due("five closed, six again", read(0, "((((((a)))))(((((b))))))"), 5);
        due("five closed, seven", read(0, "((((((a)))))((((((b)))))))"), -117);
        due("behind a choice", read(0, "((((((a|(b)))))))"), -108);
        due("behind a letter", read(0, "a((((((b((c))))))))"), -108);
        due("60 of them", read(0, "(".repeat(60)), -106);
        due("six of them", read(0, "(".repeat(6)), -106);
        due("the 7th in a class is the class's fault", read(0, "(((((([("), -107);
    }

    private void endsTooEarly() {
        begin("3 read, FAULT \"the length, if it ends too early\"");
        for (String text : new String[] {"", "(", "((", "[", "[a", "[abc", "a|", "a|b|", "(a", "(a|", "(a|b", "a(", "(a)(b", "a[b",
            "((((((a)))))"}) {
            due("\"" + text + "\"", read(0, text), -100 - text.length());
        }
        due("59 bytes", read(0, "a".repeat(58) + "["), -159);
        due("60 bytes", read(0, "a".repeat(59) + "|"), -160);
    }

    private void classRises() {
        begin("3 read, CLASS \"one to three of these, rising\"");
        for (String text : new String[] {"[a]", "[b]", "[c]", "[ab]", "[ac]", "[bc]", "[abc]"}) {
            due(text, read(0, text), 3);
            dueSaid(0, text);
            due("one node", x.about(0, 1), 1);
        }
        due("none", read(1, "[]"), -101);
        for (String text : new String[] {"[aa]", "[bb]", "[cc]", "[ba]", "[ca]", "[cb]"}) {
            due(text, read(1, text), -102);
        }
        for (String text : new String[] {"[aba]", "[abb]", "[acb]", "[acc]", "[bca]", "[bcc]"}) {
            due(text, read(1, text), -103);
        }
        for (String text : new String[] {"[abca]", "[abcc]", "[abcd]"}) {
            due(text, read(1, text), -104);
        }
        due("none came", x.say(1, -1), BAD);
    }

    private void choicesGoRight() {
        begin("3 read, \"E of several T\"");
        read(0, "a|b|c");
        read(1, "a|(b|c)");
        read(2, "(a|b)|c");
        dueSaid(1, "a|b|c");
        dueSaid(2, "(a|b)|c");
        due("a|b|c is a|(b|c)", x.about(0, 3), x.about(1, 3));
        due("(a|b)|c is dearer in x, so behind", x.about(2, 3) > x.about(0, 3));
        read(3, "ab|c");
        due("a chain binds more than a choice", x.fits(3, number("ab")), 1);
        due("c", x.fits(3, number("c")), 1);
        due("ac", x.fits(3, number("ac")), 0);
    }

    private void chainsGoRight() {
        begin("3 read, \"T of several F\"");
        read(0, "abc");
        due("cost", x.about(0, 0), 8);
        due("nodes", x.about(0, 1), 5);
        dueSaid(0, "abc");
        read(1, "a(bc)");
        due("a(bc) is abc", x.about(1, 3), x.about(0, 3));
    }

    private void chainsAreTakenApart() {
        begin("3 read, \"an F that is itself a THEN, in ( ), is taken apart\"");
        String[] texts = {"(ab)c", "((ab))c", "((((((ab))))))c", "a(b)c", "(ab)(c)", "(a)(bc)", "((a)b)c"};
        read(0, "abc");
        for (String text : texts) {
            due(text, read(1, text), 8);
            due("number of " + text, x.about(1, 3), x.about(0, 3));
            dueSaid(1, "abc");
        }
        String[] longer = {"(ab)(ca)", "((ab)c)a", "(a(bc))a", "a(bc)a", "a((bc)a)", "((a(bc))a)"};
        for (String text : longer) {
            due(text, read(1, text), 11);
            dueSaid(1, "abca");
        }
        read(2, "(ab)+c");
        dueSaid(2, "(ab)+c");
        read(2, "(ab)?(ca)");
        dueSaid(2, "(ab)?ca");
        read(2, "(ab|c)(ca)a");
        dueSaid(2, "(ab|c)caa");
        read(2, "(ab)|c");
        dueSaid(2, "ab|c");
    }

    private void repeatsTakeWhatIsAhead() {
        begin("3 read, \"+ is AGAIN, ? MAYBE of what is ahead of it\"");
        read(0, "ab+");
        due("abb", x.fits(0, number("abb")), 1);
        due("abab", x.fits(0, number("abab")), 0);
        read(0, "a|b?");
        due("the empty row", x.fits(0, 1), 1);
        read(0, "a?b");
        due("b", x.fits(0, number("b")), 1);
        read(0, "c+?");
        read(1, "c?+");
        due("+? is not ?+", x.about(1, 3) < x.about(0, 3));
        dueSaid(0, "c+?");
        dueSaid(1, "c?+");
        read(2, "(a|b)+?+");
        dueSaid(2, "(a|b)+?+");
    }

    private void costs() {
        begin("3 read, \"COST: LETTER 2, CLASS 3, THEN 1, EITHER 2, AGAIN 2, MAYBE 2\"");
        String[] texts = {"c", "[c]", "ab", "a|b", "a+", "a?", "(a|[bc])+b?", "aaaaaa", "[abc]|[abc]|[abc]|[abc]|[abc]|[abc]+"};
        int[] costs = {2, 3, 5, 6, 4, 4, 14, 17, 30};
        for (int i = 0; i < texts.length; i++) {
            due(texts[i], read(0, texts[i]), costs[i]);
            due("about " + texts[i], x.about(0, 0), costs[i]);
        }
    }

    // ---- 4 say

    private void sayTellsLength() {
        begin("4 say, \"(at -1)\"");
        read(0, "a");
        read(9, "((((([abc]|[abc])|[abc])|[abc])|[abc])|[abc])+");
        due("one byte", x.say(0, -1), 1);
        due("the longest", x.say(9, -1), 46);
        for (int at : new int[] {-2, -3, LEAST}) {
            due("at " + at, x.say(0, at), BAD);
        }
        for (int place : NO_PLACES) {
            due("place " + place, x.say(place, -1), BAD);
        }
        due("an empty place", x.say(1, -1), BAD);
    }

    private void sayTellsBytes() {
        begin("4 say, \"byte at (from 0 on) of it\"");
        read(0, "ab+");
        due("at 0", x.say(0, 0), 'a');
        due("at 1", x.say(0, 1), 'b');
        due("the last", x.say(0, 2), '+');
        due("behind the last", x.say(0, 3), BAD);
        due("far behind", x.say(0, MOST), BAD);
        due("at 60", x.say(0, 60), BAD);
        due("an empty place", x.say(1, 0), BAD);
        for (int place : NO_PLACES) {
            due("place " + place, x.say(place, 0), BAD);
        }
    }

    private void saidParentheses() {
        begin("4 say, SAID puts ( ) where it is told, and nowhere else");
        String[] read = {"((a))", "(a)+", "([ab])?", "(a+)+", "(a?)b", "(ab)|(bc)", "a|((b|c))", "(a|b)|c", "((a|b))c", "a((b|c))",
            "((ab))+", "(((a|b)))?", "(a|b)(b|c)", "a((bc))", "((ab)+)c", "((a|b)+)|c"};
        String[] said = {"a", "a+", "[ab]?", "a++", "a?b", "ab|bc", "a|b|c", "(a|b)|c", "(a|b)c", "a(b|c)",
            "(ab)+", "(a|b)?", "(a|b)(b|c)", "abc", "(ab)+c", "(a|b)+|c"};
        for (int i = 0; i < read.length; i++) {
            read(0, read[i]);
            dueSaid(0, said[i]);
            due("length of " + said[i], x.say(0, -1), said[i].length());
        }
    }

    private void saidOfTwelveNodes() {
        begin("4 say, of a PATTERN of 12 NODES, however deep");
        String[] most = {"a" + "+".repeat(11), "[abc]" + "?+".repeat(5) + "?", "aaaaaa+", "(aaaaaa)+", "a|b|c|a|b|c?", "(a|b|c|a|b|c)?",
            "(((((a|b)|c)|a)|b)|c)+", "((ab?|c)+|a)+b", "(a(b(c|a)+)+)??"};
        for (String text : most) {
            read(0, text);
            due("nodes of " + text, x.about(0, 1) >= 11);
            dueSaid(0, text);
        }
    }

    private void saidIsReadBack() {
        begin("4 say, what is SAID is read back");
        for (int cost = 2; cost <= 10; cost++) {
            List<Term> all = Patterns.of(cost);
            for (int i = 0; i < all.size(); i += 7) {
                renew();
                x.nth(0, cost, i);
                read(1, said(0));
                due("cost " + cost + ", number " + i, x.about(1, 3), i);
                dueSaid(1, all.get(i).said());
            }
        }
    }

    // ---- 5 drop

    private void dropEmpties() {
        begin("5 drop, \"A place is empty: 1\"");
        read(0, "a");
        read(9, "b");
        due("drop(9)", x.drop(9), 1);
        due("it is empty", x.say(9, -1), BAD);
        due("no other is", x.count(0), 1);
        due("drop(0)", x.drop(0), 1);
        due("none is left", x.count(0), 0);
        due("it may be held again", read(9, "c"), 2);
        dueSaid(9, "c");
    }

    private void dropOfEmpty() {
        begin("5 drop, \"BAD (also: it was)\"");
        due("never held", x.drop(0), BAD);
        read(0, "a");
        x.drop(0);
        due("dropped", x.drop(0), BAD);
        read(1, "a");
        for (int place : NO_PLACES) {
            due("place " + place, x.drop(place), BAD);
        }
        due("the held one stays", x.count(0), 1);
    }

    // ---- 6 about

    private void aboutWhats() {
        begin("6 about, what is 0 .. 3");
        read(0, "a|b");
        due("COST", x.about(0, 0), 6);
        due("NODES", x.about(0, 1), 3);
        due("how many", x.about(0, 2), 63);
        due("which one", x.about(0, 3), 43);
        for (int what : new int[] {-1, 4, LEAST, MOST}) {
            due("what " + what, x.about(0, what), BAD);
        }
    }

    private void aboutUpToTen() {
        begin("6 about, \"up to 10 (2; of more: NOT)\"");
        read(0, "(aaa)+");
        due("cost 10", x.about(0, 0), 10);
        due("how many of 10", x.about(0, 2), 3141);
        due("which one of 10", x.about(0, 3) >= 0);
        read(1, "abca");
        due("cost 11", x.about(1, 0), 11);
        due("nodes of cost 11", x.about(1, 1), 7);
        due("how many of 11", x.about(1, 2), NOT);
        due("which one of 11", x.about(1, 3), NOT);
        read(2, "[abc]|[abc]|[abc]|[abc]|[abc]|[abc]+");
        due("how many of 30", x.about(2, 2), NOT);
        due("BAD ahead of NOT", x.about(2, 4), BAD);
        due("BAD ahead of NOT", x.about(2, -1), BAD);
        int[] sizes = {3, 7, 6, 23, 63, 173, 406, 1115, 3141};
        for (int cost = 2; cost <= 10; cost++) {
            x.nth(3, cost, 0);
            due("how many of " + cost, x.about(3, 2), sizes[cost - 2]);
            due("the first of " + cost, x.about(3, 3), 0);
            x.nth(3, cost, sizes[cost - 2] - 1);
            due("the last of " + cost, x.about(3, 3), sizes[cost - 2] - 1);
        }
    }

    private void aboutOfEmpty() {
        begin("6 about, no such place or pattern");
        for (int what = 0; what <= 3; what++) {
            due("an empty place", x.about(0, what), BAD);
            for (int place : NO_PLACES) {
                due("place " + place, x.about(place, what), BAD);
            }
        }
    }

    // ---- 7 nth

    private void nthCosts() {
        begin("7 nth, \"a COST (2 .. 10)\"");
        read(0, "bc");
        for (int cost : new int[] {1, 11, 0, -1, LEAST, MOST}) {
            due("cost " + cost, x.nth(0, cost, 0), BAD);
        }
        for (int place : NO_PLACES) {
            due("place " + place, x.nth(place, 5, 0), BAD);
        }
        dueSaid(0, "bc");
        due("cost 2", x.nth(1, 2, 0), 1);
        dueSaid(1, "a");
        due("cost 10", x.nth(9, 10, 0), 6);
        dueSaid(9, "aaa+");
        due("places 0, 1, 9", x.count(0), 3);
    }

    private void nthNumbers() {
        begin("7 nth, \"number i by ORDER (from 0 on)\"");
        read(0, "bc");
        int[] sizes = {3, 7, 6, 23, 63, 173, 406, 1115, 3141};
        for (int cost = 2; cost <= 10; cost++) {
            int size = sizes[cost - 2];
            for (int i : new int[] {-1, size, size + 1, LEAST, MOST}) {
                due("cost " + cost + ", number " + i, x.nth(0, cost, i), BAD);
            }
        }
        dueSaid(0, "bc");
        for (int cost = 2; cost <= 10; cost++) {
            due("the first of cost " + cost, x.nth(1, cost, 0) > 0);
            due("the last of cost " + cost, x.nth(1, cost, sizes[cost - 2] - 1) > 0);
        }
        dueSaid(1, Patterns.of(10).get(3140).said());
    }

    private void nthOrder() {
        begin("7 nth, \"ORDER of PATTERNS\"");
        String[] ofSix = {"a[a]", "a[b]", "b[a]", "[a]a", "[a]b", "[b]a", "a|a", "a|b", "b|a", "c|c", "a++", "a?+", "a+?", "c??"};
        int[] numbers = {0, 1, 7, 21, 22, 24, 42, 43, 45, 50, 51, 54, 57, 62};
        for (int i = 0; i < ofSix.length; i++) {
            x.nth(0, 6, numbers[i]);
            dueSaid(0, ofSix[i]);
        }
        for (int cost = 2; cost <= 10; cost++) {
            List<Term> all = Patterns.of(cost);
            for (int i = 0; i < all.size(); i++) {
                if (i % 20 == 0) {
                    renew();
                }
                due("nodes", x.nth(0, cost, i), all.get(i).nodes());
                dueSaid(0, all.get(i).said());
                due("its number", x.about(0, 3), i);
            }
        }
    }
}
