import java.util.ArrayList;
import java.util.BitSet;
import java.util.HashMap;
import java.util.HashSet;
import java.util.LinkedHashSet;
import java.util.List;
import java.util.Map;
import java.util.Set;

/** The document's calls in the plainest way, slow and with the whole library: what the class is held against. */
final class Model {
    static final int BAD = -1, NOT = -2, FULL = -3;

    private static final List<Term> ALL = Patterns.all();
    private static final List<String> SHORT_ROWS = Rows.upTo(6);
    private static final Map<String, Integer> ROW_NUMBERS = numbers();
    private static final List<BitSet> FIT = fitSets();

    private record Showing(String row, int said, int part, int price) {
    }

    private final Term[] places = new Term[10];
    private final StringBuilder tape = new StringBuilder();
    private final List<Showing> showings = new ArrayList<>();
    private final Set<Integer> takenBack = new HashSet<>();
    private final Set<BitSet> foundMeanings = new HashSet<>();
    private boolean searched;
    private int kinds;
    private int cost;
    private int at;
    private int foundCount;
    private int askedCount;

    private static Map<String, Integer> numbers() {
        Map<String, Integer> numbers = new HashMap<>();
        SHORT_ROWS.forEach(row -> numbers.put(row, numbers.size()));
        return numbers;
    }

    private static List<BitSet> fitSets() {
        List<BitSet> sets = new ArrayList<>();
        for (Term term : ALL) {
            BitSet set = new BitSet();
            for (int i = 0; i < SHORT_ROWS.size(); i++) {
                set.set(i, term.fits(SHORT_ROWS.get(i)));
            }
            sets.add(set);
        }
        return sets;
    }

    private static boolean isPlace(int place) {
        return place >= 0 && place < 10;
    }

    private boolean holds(int place) {
        return isPlace(place) && places[place] != null;
    }

    int feed(int n, int v) {
        if (n < 1 || n > 4) {
            return BAD;
        }
        if (tape.length() + n > 60) {
            return FULL;
        }
        for (int i = 0; i < n; i++) {
            tape.append((char) (v >> 8 * i & 255));
        }
        return tape.length();
    }

    int read(int place) {
        if (!isPlace(place)) {
            return BAD;
        }
        String text = tape.toString();
        tape.setLength(0);
        int fault = Text.fault(text);
        if (fault >= 0) {
            return -100 - fault;
        }
        Term term = Text.pattern(text);
        if (term.nodes() > 12) {
            return -1000;
        }
        places[place] = term;
        return term.cost();
    }

    int say(int place, int at) {
        if (!holds(place) || at < -1 || at >= places[place].said().length()) {
            return BAD;
        }
        return at == -1 ? places[place].said().length() : places[place].said().charAt(at);
    }

    int drop(int place) {
        if (!holds(place)) {
            return BAD;
        }
        places[place] = null;
        return 1;
    }

    int about(int place, int what) {
        if (!holds(place) || what < 0 || what > 3) {
            return BAD;
        }
        Term term = places[place];
        if (what > 1 && term.cost() > 10) {
            return NOT;
        }
        return switch (what) {
            case 0 -> term.cost();
            case 1 -> term.nodes();
            case 2 -> Patterns.of(term.cost()).size();
            default -> Patterns.of(term.cost()).indexOf(term);
        };
    }

    int nth(int place, int cost, int i) {
        if (!isPlace(place) || i < 0 || i >= Patterns.of(cost).size()) {
            return BAD;
        }
        places[place] = Patterns.of(cost).get(i);
        return places[place].nodes();
    }

    int fits(int place, int row) {
        if (!holds(place) || Rows.toRow(row) == null) {
            return BAD;
        }
        return places[place].fits(Rows.toRow(row)) ? 1 : 0;
    }

    int out(int place, int row) {
        if (!holds(place) || Rows.toRow(row) == null) {
            return BAD;
        }
        String text = Rows.toRow(row);
        for (int i = 0; i < text.length(); i++) {
            for (int j = text.length(); j > i; j--) {
                if (places[place].fits(text.substring(i, j))) {
                    return 100 * i + j - i;
                }
            }
        }
        return NOT;
    }

    private List<String> fitRows(int place, int length) {
        return Rows.of(length).stream().filter(places[place]::fits).toList();
    }

    int many(int place, int length) {
        return !holds(place) || length < 0 || length > 12 ? BAD : fitRows(place, length).size();
    }

    int row(int place, int length, int i) {
        if (!holds(place) || length < 0 || length > 12 || i < 0) {
            return BAD;
        }
        List<String> rows = fitRows(place, length);
        return i < rows.size() ? Rows.toNumber(rows.get(i)) : BAD;
    }

    int alike(int a, int b) {
        return !holds(a) || !holds(b) ? BAD : Term.partingRow(places[a], places[b], false) == null ? 1 : 0;
    }

    int parted(int a, int b) {
        if (!holds(a) || !holds(b)) {
            return BAD;
        }
        String row = Term.partingRow(places[a], places[b], false);
        return row == null ? NOT : row.length() > 12 ? FULL : Rows.toNumber(row);
    }

    int inside(int a, int b) {
        return !holds(a) || !holds(b) ? BAD : Term.partingRow(places[a], places[b], true) == null ? 1 : 0;
    }

    int show(int row, int said, int part, int price) {
        String text = Rows.toRow(row);
        if (text == null || text.length() > 6 || said < 0 || said > 3 || price < 1 || price > 99) {
            return BAD;
        }
        Set<Integer> parts = new HashSet<>();
        for (int begin = 0; begin < text.length(); begin++) {
            for (int length = 1; begin + length <= text.length(); length++) {
                parts.add(10 * begin + length);
            }
        }
        if (said == 2 ? !parts.contains(part) : part != 0) {
            return BAD;
        }
        if (showings.size() == 20) {
            return FULL;
        }
        showings.add(new Showing(text, said, part, price));
        return showings.size() - 1;
    }

    int back(int showing, int is) {
        if (showing < 0 || showing >= showings.size() || is < 0 || is > 1) {
            return BAD;
        }
        int was = takenBack.contains(showing) ? 1 : 0;
        if (is == 1) {
            takenBack.add(showing);
        } else {
            takenBack.remove(showing);
        }
        return was;
    }

    private interface Fitting {
        boolean fits(String row);
    }

    private static boolean isSo(Showing showing, Fitting pattern) {
        String row = showing.row;
        if (showing.said < 2) {
            return pattern.fits(row) == (showing.said == 1);
        }
        for (int i = 0; i < row.length(); i++) {
            for (int j = row.length(); j > i; j--) {
                if (pattern.fits(row.substring(i, j))) {
                    return showing.said == 2 && showing.part == 10 * i + j - i;
                }
            }
        }
        return showing.said == 3;
    }

    int agrees(int place, int showing) {
        if (!holds(place) || showing < 0 || showing >= showings.size()) {
            return BAD;
        }
        return isSo(showings.get(showing), places[place]::fits) ? 1 : 0;
    }

    private int paidBy(Fitting pattern) {
        int sum = 0;
        for (int i = 0; i < showings.size(); i++) {
            if (!takenBack.contains(i) && !isSo(showings.get(i), pattern)) {
                sum += showings.get(i).price;
            }
        }
        return sum;
    }

    private int paidByNumber(int number) {
        return paidBy(row -> FIT.get(number).get(ROW_NUMBERS.get(row)));
    }

    int paid(int place) {
        return holds(place) ? paidBy(places[place]::fits) : BAD;
    }

    private static boolean isSearch(int kinds, int cost) {
        return kinds >= 1 && kinds <= 63 && cost >= 2 && cost <= 10;
    }

    private static boolean isAmong(int number, int kinds, int cost) {
        return (ALL.get(number).kinds() & ~kinds) == 0 && ALL.get(number).cost() <= cost;
    }

    private static BitSet meaning(int number) {
        return FIT.get(number).get(0, 1 + 3 + 9 + 27 + 81);
    }

    int find(int place, int kinds, int cost) {
        if (!isPlace(place) || !isSearch(kinds, cost)) {
            return BAD;
        }
        searched = true;
        this.kinds = kinds;
        this.cost = cost;
        at = 0;
        foundCount = 0;
        foundMeanings.clear();
        return next(place);
    }

    int next(int place) {
        if (!isPlace(place) || !searched) {
            return BAD;
        }
        for (; at < ALL.size(); at++) {
            if (isAmong(at, kinds, cost) && paidByNumber(at) == 0 && foundMeanings.add(meaning(at))) {
                foundCount++;
                places[place] = ALL.get(at);
                at++;
                return places[place].cost();
            }
        }
        return NOT;
    }

    int found() {
        return foundCount;
    }

    private Set<BitSet> openMeanings(int kinds, int cost) {
        Set<BitSet> meanings = new LinkedHashSet<>();
        for (int i = 0; i < ALL.size(); i++) {
            if (isAmong(i, kinds, cost) && paidByNumber(i) == 0) {
                meanings.add(meaning(i));
            }
        }
        return meanings;
    }

    int open(int kinds, int cost) {
        return isSearch(kinds, cost) ? openMeanings(kinds, cost).size() : BAD;
    }

    int ask(int kinds, int cost) {
        if (!isSearch(kinds, cost)) {
            return BAD;
        }
        Set<BitSet> meanings = openMeanings(kinds, cost);
        int best = 0;
        int answer = NOT;
        askedCount = 0;
        for (int i = 0; i < 1 + 3 + 9 + 27; i++) {
            int row = i;
            int have = (int) meanings.stream().filter(m -> m.get(row)).count();
            int lesser = Math.min(have, meanings.size() - have);
            if (lesser > best) {
                best = lesser;
                answer = Rows.toNumber(SHORT_ROWS.get(i));
                askedCount = have;
            }
        }
        return answer;
    }

    int asked() {
        return askedCount;
    }

    int noise(int place, int kinds, int cost) {
        if (!isPlace(place) || !isSearch(kinds, cost)) {
            return BAD;
        }
        int best = NOT;
        for (int i = 0; i < ALL.size(); i++) {
            if (isAmong(i, kinds, cost)) {
                int sum = ALL.get(i).cost() + paidByNumber(i);
                if (best == NOT || sum < best) {
                    best = sum;
                    places[place] = ALL.get(i);
                }
            }
        }
        return best;
    }

    int count(int what) {
        return switch (what) {
            case 0 -> {
                int held = 0;
                for (Term term : places) {
                    held += term != null ? 1 : 0;
                }
                yield held;
            }
            case 1 -> showings.size();
            case 2 -> takenBack.size();
            case 3 -> tape.length();
            default -> BAD;
        };
    }
}
