/** The edges of promises 19 to 26: a test for each sentence that names one. */
public final class SearchEdgesTest extends Bench {
    private static final int LETTER = 1, CLASS = 2, THEN = 4, EITHER = 8, AGAIN = 16, MAYBE = 32;
    private static final int[] NO_KINDS = {0, 64, 65, -1, 127, LEAST, MOST};
    private static final int[] NO_COSTS = {1, 11, 0, -1, LEAST, MOST};

    public static void main(String[] args) {
        new SearchEdgesTest().all();
    }

    private void all() {
        findNeedsPlace();
        findNeedsKinds();
        findNeedsCost();
        badFindBeginsNoSearch();
        findOfTheseKindsAlone();
        findOfAtMostThatCost();
        findIsFirst();
        findAgreesWithAll();
        findLeavesOutTakenBack();
        findNone();
        findBeginsAnew();
        nextBeforeAny();
        nextNeedsPlace();
        nextAtTheEnd();
        nextByMeaning();
        nextShowingsTold();
        nextShowingsTakenBack();
        nextMeaningsStay();
        nextOfLatestSearch();
        foundCounts();
        openCountsMeanings();
        openOfNone();
        openIsBad();
        askOfThreeLetters();
        askOfSeveralTheFirst();
        askLesserOne();
        askNone();
        askIsBad();
        askedOfLatest();
        noiseWhateverAgrees();
        noiseOfSeveralTheFirst();
        noiseTakenBack();
        noiseOfKindsAndCost();
        noiseNone();
        noiseIsBad();
        countsFromNoneToAll();
        countIsBad();
        check.end();
    }

    // ---- 19 find

    private void findNeedsPlace() {
        begin("19 find, \"PLACES 0 .. 9\"");
        for (int place : NO_PLACES) {
            due("place " + place, x.find(place, ALL_KINDS, 10), BAD);
        }
        due("place 0", x.find(0, ALL_KINDS, 10), 2);
        due("place 9", x.find(9, ALL_KINDS, 10), 2);
        due("both came", x.count(0), 2);
    }

    private void findNeedsKinds() {
        begin("19 find, \"a set of KINDS\" as bits 0 .. 5");
        for (int kinds : NO_KINDS) {
            due("kinds " + kinds, x.find(0, kinds, 10), BAD);
        }
        due("the least", x.find(0, 1, 10), 2);
        due("the most", x.find(0, 63, 10), 2);
    }

    private void findNeedsCost() {
        begin("19 find, \"a COST (2 .. 10)\"");
        for (int cost : NO_COSTS) {
            due("cost " + cost, x.find(0, ALL_KINDS, cost), BAD);
        }
        due("cost 2", x.find(0, ALL_KINDS, 2), 2);
        due("cost 10", x.find(0, ALL_KINDS, 10), 2);
    }

    private void badFindBeginsNoSearch() {
        begin("19 find, BAD changes nothing");
        x.find(0, 0, 10);
        x.find(0, ALL_KINDS, 11);
        x.find(10, ALL_KINDS, 10);
        due("no search began", x.next(0), BAD);
        due("nothing came", x.count(0), 0);
        x.find(0, ALL_KINDS, 2);
        x.find(0, ALL_KINDS, 1);
        x.find(0, 64, 10);
        x.find(-1, ALL_KINDS, 10);
        due("the search before goes on", x.next(1), 2);
        dueSaid(1, "b");
        due("found", x.found(), 2);
    }

    private void findOfTheseKindsAlone() {
        begin("19 find, \"all PATTERNS of these KINDS alone\"");
        String[] texts = {"b", "[bc]", "ba", "a|b", "b+", "b?"};
        int[] with = {LETTER, CLASS, LETTER | THEN, LETTER | EITHER, LETTER | AGAIN, LETTER | MAYBE};
        int[] costs = {2, 3, 5, 6, 4, 4};
        String[][] fit = {{"b"}, {"b", "c"}, {"ba"}, {"a", "b"}, {"b", "bb"}, {"", "b"}};
        String[][] not = {{"a"}, {"a"}, {"a"}, {"c"}, {"a"}, {"a"}};
        for (int kind = 0; kind < 6; kind++) {
            renew();
            for (String row : fit[kind]) {
                shall(row);
            }
            for (String row : not[kind]) {
                shallNot(row);
            }
            due(texts[kind] + " by its kinds", x.find(0, with[kind], costs[kind]), costs[kind]);
            dueSaid(0, texts[kind]);
            int without = with[kind] & ~(1 << kind);
            due("and not without one", x.find(0, without == 0 ? THEN : without, 10), NOT);
        }
        renew();
        due("no leaf, no pattern", x.find(0, THEN | EITHER | AGAIN | MAYBE, 10), NOT);
        due("classes alone", x.find(0, CLASS | THEN, 10), 3);
        dueSaid(0, "[a]");
    }

    private void findOfAtMostThatCost() {
        begin("19 find, \"of at most that COST\"");
        due("no class of cost 2", x.find(0, CLASS, 2), NOT);
        due("the first of cost 3", x.find(0, CLASS, 3), 3);
        shall("abc");
        shallNot("abcc");
        shallNot("ab");
        shallNot("aba");
        shallNot("aac");
        shallNot("cbc");
        due("one too little", x.find(0, LETTER | THEN, 7), NOT);
        due("just enough", x.find(0, LETTER | THEN, 8), 8);
        dueSaid(0, "abc");
        renew();
        shall("abab");
        shallNot("ab");
        due("none up to 10", x.find(0, LETTER | THEN, 10), NOT);
        renew();
        shall("aaa");
        shall("aaaaaa");
        shallNot("aaaa");
        shallNot("aaaaa");
        due("cost 9", x.find(0, LETTER | THEN | AGAIN, 9), NOT);
        due("cost 10", x.find(0, LETTER | THEN | AGAIN, 10), 10);
        dueSaid(0, "(aaa)+");
    }

    private void findIsFirst() {
        begin("19 find, \"the first one is FOUND\"");
        due("of all", x.find(0, ALL_KINDS, 10), 2);
        dueSaid(0, "a");
        due("of the classes", x.find(0, CLASS, 10), 3);
        dueSaid(0, "[a]");
        shall("");
        due("with the empty row", x.find(0, ALL_KINDS, 10), 4);
        dueSaid(0, "a?");
        shall("cc");
        due("and cc: AGAIN is ahead of MAYBE", x.find(0, ALL_KINDS, 10), 6);
        dueSaid(0, "c?+");
    }

    private void findAgreesWithAll() {
        begin("19 find, \"that AGREE with all SHOWINGS\"");
        for (int i = 0; i < 19; i++) {
            x.show(number("b"), 1, 0, 1);
        }
        due("19 alike", x.find(0, LETTER, 10), 2);
        dueSaid(0, "b");
        x.show(number("b"), 0, 0, 1);
        due("the 20th against them", x.find(0, ALL_KINDS, 10), NOT);
        renew();
        x.show(number("cabab"), 2, 14, 1);
        x.show(number("ccacb"), 3, 0, 1);
        x.show(1, 0, 0, 1);
        due("by what comes out", x.find(0, ALL_KINDS, 10), 7);
        dueSaid(0, "(ab)+");
    }

    private void findLeavesOutTakenBack() {
        begin("19 find, SHOWINGS \"may be TAKEN BACK\"");
        shall("b");
        shall("c");
        x.back(0, 1);
        due("c is left", x.find(0, LETTER, 10), 2);
        dueSaid(0, "c");
        x.back(0, 0);
        due("none is both", x.find(0, LETTER, 10), NOT);
        x.back(1, 1);
        due("b is left", x.find(0, LETTER, 10), 2);
        dueSaid(0, "b");
    }

    private void findNone() {
        begin("19 find, \"NOT: none (the place stays; the SEARCH is at its end)\"");
        read(0, "cab");
        x.find(1, ALL_KINDS, 10);
        x.next(1);
        due("found before", x.found(), 2);
        shall("a");
        shallNot("a");
        due("none", x.find(0, ALL_KINDS, 10), NOT);
        dueSaid(0, "cab");
        due("none to an empty place", x.find(2, ALL_KINDS, 10), NOT);
        due("it stays empty", x.say(2, -1), BAD);
        due("found", x.found(), 0);
        x.back(1, 1);
        due("the search is at its end", x.next(0), NOT);
        dueSaid(0, "cab");
        due("a new one is not", x.find(0, ALL_KINDS, 10), 2);
    }

    private void findBeginsAnew() {
        begin("19 find, \"A SEARCH begins\"");
        x.find(0, ALL_KINDS, 10);
        x.next(0);
        x.next(0);
        due("from the first one", x.find(0, ALL_KINDS, 10), 2);
        dueSaid(0, "a");
        due("with no meanings", x.next(0), 2);
        dueSaid(0, "b");
        due("by other kinds", x.find(0, CLASS, 3), 3);
        dueSaid(0, "[a]");
        due("and another cost", x.next(0), 3);
        for (int i = 3; i <= 7; i++) {
            x.next(0);
        }
        due("to its own end", x.next(0), NOT);
    }

    // ---- 20 next

    private void nextBeforeAny() {
        begin("20 next, \"BAD: also before any\"");
        due("of a new object", x.next(0), BAD);
        x.open(ALL_KINDS, 10);
        x.ask(ALL_KINDS, 10);
        x.noise(1, ALL_KINDS, 10);
        due("open, ask and noise are no searches", x.next(0), BAD);
        x.find(0, THEN, 10);
        due("behind one that was NOT", x.next(0), NOT);
    }

    private void nextNeedsPlace() {
        begin("20 next, no such place");
        x.find(0, ALL_KINDS, 10);
        for (int place : NO_PLACES) {
            due("place " + place, x.next(place), BAD);
        }
        due("found", x.found(), 1);
        due("the search did not go on", x.next(9), 2);
        dueSaid(9, "b");
    }

    private void nextAtTheEnd() {
        begin("20 next, \"NOT: none (the place stays; the SEARCH is at its end)\"");
        x.find(0, LETTER, 2);
        x.next(0);
        due("the last", x.next(0), 2);
        due("none", x.next(0), NOT);
        dueSaid(0, "c");
        due("none to an empty place", x.next(1), NOT);
        due("it stays empty", x.say(1, -1), BAD);
        due("found stays", x.found(), 3);
        due("BAD ahead of NOT", x.next(10), BAD);
        shall("a");
        x.find(0, LETTER, 2);
        due("none but a", x.next(0), NOT);
        x.back(0, 1);
        due("at its end, though b and c agree now", x.next(0), NOT);
    }

    private void nextByMeaning() {
        begin("20 next, MEANING: \"ROWS of at most 4 LETTERS\"");
        shall("aaa");
        shallNot("a");
        shallNot("aa");
        shallNot("aaaa");
        due("aaa", x.find(0, LETTER | THEN | AGAIN, 10), 8);
        dueSaid(0, "aaa");
        due("a(aa)+ is parted by 5 letters, (aaa)+ by 6: no other meaning", x.next(0), NOT);
        due("open", x.open(LETTER | THEN | AGAIN, 10), 1);
        renew();
        shall("cc");
        shallNot("c");
        due("cc", x.find(0, LETTER | THEN | AGAIN, 7), 5);
        due("cc+ is parted by 3 letters: another meaning", x.next(0), 7);
        dueSaid(0, "cc+");
        due("c+c is alike, (cc)+ is parted by 4 letters: another meaning", x.next(0), 7);
        dueSaid(0, "(cc)+");
        due("no more", x.next(0), NOT);
        renew();
        x.find(0, LETTER | CLASS, 3);
        x.next(0);
        x.next(0);
        due("[a], [b] and [c] mean what was found", x.next(0), 3);
        dueSaid(0, "[ab]");
    }

    private void nextShowingsTold() {
        begin("20 next, \"SHOWINGS told .. meanwhile count from then on\"");
        x.find(0, ALL_KINDS, 10);
        shallNot("b");
        due("behind a, not b", x.next(0), 2);
        dueSaid(0, "c");
        shall("cc");
        due("cc, not b", x.next(0), 4);
        dueSaid(0, "c+");
        x.show(number("abcc"), 2, 22, 1);
        shall("");
        due("and the empty row", x.next(0), 6);
        dueSaid(0, "c?+");
    }

    private void nextShowingsTakenBack() {
        begin("20 next, SHOWINGS \"TAKEN BACK meanwhile count from then on\"");
        shall("c");
        x.find(0, ALL_KINDS, 10);
        dueSaid(0, "c");
        x.back(0, 1);
        due("what lies ahead of the found one stays there", x.next(0), 3);
        dueSaid(0, "[a]");
        due("and so on", x.next(0), 3);
        dueSaid(0, "[b]");
        x.back(0, 0);
        due("not taken back any more", x.next(0), 3);
        dueSaid(0, "[ac]");
    }

    private void nextMeaningsStay() {
        begin("20 next, \"MEANINGS stay\"");
        x.find(0, LETTER | CLASS, 3);
        shallNot("a");
        x.next(0);
        dueSaid(0, "b");
        x.back(0, 1);
        x.next(0);
        dueSaid(0, "c");
        due("what a means was found, and a is not against it now", x.next(0), 3);
        dueSaid(0, "[ab]");
        renew();
        shallNot("a");
        x.find(0, LETTER | CLASS, 3);
        dueSaid(0, "b");
        x.back(0, 1);
        x.next(0);
        due("what a means was not found", x.next(0), 3);
        dueSaid(0, "[a]");
    }

    private void nextOfLatestSearch() {
        begin("20 next, \"of the latest SEARCH\"");
        x.find(0, ALL_KINDS, 10);
        x.open(CLASS, 3);
        x.ask(CLASS, 3);
        x.noise(1, CLASS, 3);
        x.drop(0);
        read(0, "cc");
        x.nth(2, 10, 5);
        due("other calls are no searches", x.next(0), 2);
        dueSaid(0, "b");
        x.find(1, CLASS, 3);
        due("the latest", x.next(1), 3);
        dueSaid(1, "[b]");
    }

    // ---- 21 found

    private void foundCounts() {
        begin("21 found, \"in the latest SEARCH\"");
        due("before any", x.found(), 0);
        x.find(0, LETTER, 2);
        due("the first", x.found(), 1);
        x.next(0);
        due("and the next", x.found(), 2);
        x.next(0);
        x.next(0);
        due("none more at the end", x.found(), 3);
        x.next(10);
        x.find(0, 0, 2);
        due("BAD changes nothing", x.found(), 3);
        x.open(ALL_KINDS, 10);
        x.noise(0, ALL_KINDS, 10);
        due("open and noise find nothing", x.found(), 3);
        x.find(0, LETTER, 2);
        due("a new search", x.found(), 1);
        x.find(0, THEN, 2);
        due("one that was NOT", x.found(), 0);
        x.next(0);
        due("and its next", x.found(), 0);
        int found = x.find(1, ALL_KINDS, 8) > 0 ? 1 : 0;
        while (x.next(1) > 0) {
            found++;
        }
        due("as many as are open", found, x.open(ALL_KINDS, 8));
        due("found", x.found(), found);
    }

    // ---- 22 open

    private void openCountsMeanings() {
        begin("22 open, \"how many MEANINGS\"");
        due("letters", x.open(LETTER, 10), 3);
        due("letters and classes: [a] means what a does", x.open(LETTER | CLASS, 10), 7);
        due("choices of letters mean what classes do", x.open(LETTER | EITHER, 10), 7);
        due("rows of 1 to 3 letters", x.open(LETTER | THEN, 10), 39);
        due("rows of 1 or 2", x.open(LETTER | THEN, 7), 12);
        int[] all = {3, 7, 13, 30, 57, 125, 302, 615, 1284};
        for (int cost = 2; cost <= 10; cost++) {
            due("cost " + cost, x.open(ALL_KINDS, cost), all[cost - 2]);
        }
    }

    private void openOfNone() {
        begin("22 open, of none");
        due("no pattern of these kinds", x.open(THEN | EITHER | AGAIN | MAYBE, 10), 0);
        due("no class of cost 2", x.open(CLASS, 2), 0);
        shall("a");
        shallNot("a");
        due("none agrees", x.open(ALL_KINDS, 10), 0);
        x.back(1, 1);
        due("one taken back", x.open(LETTER, 10), 1);
        x.back(0, 1);
        due("both taken back", x.open(LETTER, 10), 3);
    }

    private void openIsBad() {
        begin("22 open, BAD");
        for (int kinds : NO_KINDS) {
            due("kinds " + kinds, x.open(kinds, 10), BAD);
        }
        for (int cost : NO_COSTS) {
            due("cost " + cost, x.open(ALL_KINDS, cost), BAD);
        }
    }

    // ---- 23 ask

    private void askOfThreeLetters() {
        begin("23 ask, \"of all ROWS of at most 3 LETTERS\"");
        shallNot("c");
        shall("cc");
        due("cc, cc+ and (cc)+: parted by the last row of 3 letters", x.ask(LETTER | THEN | AGAIN, 7), number("ccc"));
        due("asked", x.asked(), 1);
        shallNot("ccc");
        due("two are open", x.open(LETTER | THEN | AGAIN, 7), 2);
        due("cc and (cc)+: parted by 4 letters alone", x.ask(LETTER | THEN | AGAIN, 7), NOT);
        due("asked", x.asked(), 0);
        renew();
        shallNot("a");
        shall("aa");
        due("aa, aa+ and (aa)+: parted by the first row of 3 letters", x.ask(LETTER | THEN | AGAIN, 7), number("aaa"));
        renew();
        shallNot("a");
        shallNot("b");
        shall("ccc");
        due("ccc, c+ and such", x.ask(LETTER | AGAIN | THEN, 8), number("c"));
    }

    private void askOfSeveralTheFirst() {
        begin("23 ask, \"of several the first ROW\"");
        due("a, b and c part alike", x.ask(LETTER, 2), number("a"));
        shallNot("a");
        due("b and c part alike", x.ask(LETTER, 2), number("b"));
        renew();
        shall("b");
        shallNot("a");
        shallNot("c");
        due("b, b+ and b?: the empty row ahead of bb", x.ask(ALL_KINDS, 4), 1);
        due("asked", x.asked(), 1);
    }

    private void askLesserOne() {
        begin("23 ask, \"the lesser one .. is greatest\"");
        due("4 of 7 have a", x.ask(CLASS, 3), number("a"));
        due("asked", x.asked(), 4);
        shall("a");
        due("all 4 have a, 2 of them b", x.ask(CLASS, 3), number("b"));
        due("asked", x.asked(), 2);
        shall("c");
        due("all 2 have a and c, 1 of them b", x.ask(CLASS, 3), number("b"));
        due("asked", x.asked(), 1);
        renew();
        shall("a");
        shallNot("b");
        shallNot("c");
        shallNot("");
        due("a and a+: one of two", x.ask(LETTER | AGAIN, 4), number("aa"));
    }

    private void askNone() {
        begin("23 ask, \"NOT: for all ROWS the lesser one is 0\"");
        due("no pattern", x.ask(THEN, 10), NOT);
        shall("a");
        due("one meaning alone", x.ask(LETTER, 10), NOT);
        x.find(0, ALL_KINDS, 10);
        x.ask(LETTER, 10);
        due("the search goes on", x.next(0), 3);
        dueSaid(0, "[ab]");
        shallNot("a");
        due("none agrees", x.ask(ALL_KINDS, 10), NOT);
    }

    private void askIsBad() {
        begin("23 ask, BAD");
        for (int kinds : NO_KINDS) {
            due("kinds " + kinds, x.ask(kinds, 10), BAD);
        }
        for (int cost : NO_COSTS) {
            due("cost " + cost, x.ask(ALL_KINDS, cost), BAD);
        }
        due("BAD ahead of NOT", x.ask(THEN, 11), BAD);
    }

    // ---- 24 asked

    private void askedOfLatest() {
        begin("24 asked, \"Of the latest ask()\", \"(0 if it was NOT)\"");
        due("before any", x.asked(), 0);
        x.open(CLASS, 3);
        due("open asks nothing", x.asked(), 0);
        x.ask(CLASS, 3);
        due("the latest", x.asked(), 4);
        x.ask(LETTER, 3);
        due("the latest", x.asked(), 1);
        x.ask(LETTER, 11);
        x.ask(64, 3);
        due("BAD changes nothing", x.asked(), 1);
        shall("b");
        x.open(CLASS, 3);
        x.find(0, CLASS, 3);
        x.noise(0, CLASS, 3);
        due("other calls change nothing", x.asked(), 1);
        x.ask(LETTER, 3);
        due("it was NOT", x.asked(), 0);
        shall("");
        x.ask(CLASS | MAYBE, 10);
        due("all have the empty row, and some have a", x.asked() > 0);
        shallNot("a");
        shallNot("c");
        due("b? alone", x.open(CLASS | MAYBE, 5), 1);
        due("it has the empty row and b", x.ask(CLASS | MAYBE, 5), NOT);
        due("but it was NOT", x.asked(), 0);
    }

    // ---- 25 noise

    private void noiseWhateverAgrees() {
        begin("25 noise, \"(whatever AGREES)\"");
        x.show(number("a"), 1, 0, 99);
        x.show(number("a"), 0, 0, 98);
        due("98 are paid", x.noise(0, ALL_KINDS, 10), 100);
        dueSaid(0, "a");
        due("paid", x.paid(0), 98);
        for (int i = 2; i < 20; i++) {
            x.show(number("aaaaa"), i % 2, 0, 99);
        }
        due("9 of 18 and 98 are paid", x.noise(0, ALL_KINDS, 10), 9 * 99 + 98 + 2);
    }

    private void noiseOfSeveralTheFirst() {
        begin("25 noise, \"least PAID and own COST together; of several the first\"");
        due("no showings", x.noise(0, ALL_KINDS, 10), 2);
        dueSaid(0, "a");
        x.show(number("a"), 1, 0, 1);
        x.show(number("b"), 1, 0, 1);
        due("a and b pay 1, [ab] costs 1 more", x.noise(0, ALL_KINDS, 10), 3);
        dueSaid(0, "a");
        x.show(number("b"), 1, 0, 1);
        due("b pays 1", x.noise(0, ALL_KINDS, 10), 3);
        dueSaid(0, "b");
        x.show(number("a"), 1, 0, 1);
        due("both pay 2, [ab] costs 1 more", x.noise(0, ALL_KINDS, 10), 3);
        dueSaid(0, "[ab]");
    }

    private void noiseTakenBack() {
        begin("25 noise, PAID of \"those that are not TAKEN BACK\"");
        x.show(number("b"), 1, 0, 50);
        x.show(number("c"), 1, 0, 60);
        due("c is dearer", x.noise(0, LETTER, 10), 52);
        dueSaid(0, "c");
        x.back(1, 1);
        due("c is taken back", x.noise(0, LETTER, 10), 2);
        dueSaid(0, "b");
        x.back(0, 1);
        due("both are", x.noise(0, LETTER, 10), 2);
        dueSaid(0, "a");
    }

    private void noiseOfKindsAndCost() {
        begin("25 noise, \"of all those PATTERNS\"");
        x.show(number("aaaa"), 1, 0, 99);
        x.show(number("a"), 0, 0, 99);
        x.show(number("aaa"), 0, 0, 99);
        due("of cost 7", x.noise(0, ALL_KINDS, 7), 7);
        dueSaid(0, "(aa)+");
        due("of cost 6", x.noise(0, ALL_KINDS, 6), 101);
        dueSaid(0, "b");
        due("without AGAIN", x.noise(0, ALL_KINDS & ~AGAIN, 10), 101);
        due("of classes alone", x.noise(0, CLASS, 3), 102);
        dueSaid(0, "[b]");
        due("of classes in rows", x.noise(0, CLASS | THEN | AGAIN, 9), 9);
        dueSaid(0, "([a][a])+");
    }

    private void noiseNone() {
        begin("25 noise, \"NOT: there is no PATTERN of these KINDS\"");
        read(0, "cab");
        due("no leaf", x.noise(0, THEN | EITHER | AGAIN | MAYBE, 10), NOT);
        due("no class of cost 2", x.noise(0, CLASS, 2), NOT);
        dueSaid(0, "cab");
        due("to an empty place", x.noise(1, MAYBE, 10), NOT);
        due("it stays empty", x.say(1, -1), BAD);
        due("a class of cost 3", x.noise(1, CLASS, 3), 3);
    }

    private void noiseIsBad() {
        begin("25 noise, BAD");
        read(0, "cab");
        for (int place : NO_PLACES) {
            due("place " + place, x.noise(place, ALL_KINDS, 10), BAD);
            due("BAD ahead of NOT", x.noise(place, THEN, 10), BAD);
        }
        for (int kinds : NO_KINDS) {
            due("kinds " + kinds, x.noise(0, kinds, 10), BAD);
        }
        for (int cost : NO_COSTS) {
            due("cost " + cost, x.noise(0, ALL_KINDS, cost), BAD);
        }
        dueSaid(0, "cab");
    }

    // ---- 26 count

    private void countsFromNoneToAll() {
        begin("26 count, from none to all");
        for (int place = 0; place < 10; place++) {
            due("patterns", x.count(0), place);
            read(place, "a");
        }
        due("10 patterns", x.count(0), 10);
        read(9, "b");
        due("one replaced", x.count(0), 10);
        for (int i = 0; i < 20; i++) {
            due("showings", x.count(1), i);
            shall("a");
        }
        due("20 showings", x.count(1), 20);
        for (int i = 0; i < 20; i++) {
            due("taken back", x.count(2), i);
            x.back(i, 1);
        }
        due("20 taken back", x.count(2), 20);
        due("20 showings still", x.count(1), 20);
        for (int i = 0; i < 60; i++) {
            due("bytes", x.count(3), i);
            x.feed(1, 'a');
        }
        due("60 bytes", x.count(3), 60);
        x.feed(1, 'a');
        due("not 61", x.count(3), 60);
    }

    private void countIsBad() {
        begin("26 count, what is 0 .. 3");
        for (int what : new int[] {-1, 4, LEAST, MOST}) {
            due("what " + what, x.count(what), BAD);
        }
    }
}
