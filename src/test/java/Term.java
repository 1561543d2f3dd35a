import java.util.ArrayList;
import java.util.HashSet;
import java.util.LinkedHashSet;
import java.util.List;
import java.util.Map;
import java.util.Set;
import java.util.concurrent.ConcurrentHashMap;
import java.util.regex.Pattern;

/** A pattern as the document's terms tell it, in the plainest way: it is the model that the class is held against. */
record Term(int kind, int v, Term x, Term y) implements Comparable<Term> {
    static final int LETTER = 0, CLASS = 1, THEN = 2, EITHER = 3, AGAIN = 4, MAYBE = 5;
    private static final Map<Term, Pattern> REGEXES = new ConcurrentHashMap<>();

    static Term letter(int v) {
        return new Term(LETTER, v, null, null);
    }

    static Term ofClass(int s) {
        return new Term(CLASS, s, null, null);
    }

    static Term then(Term x, Term y) {
        return x.kind == THEN ? new Term(THEN, 0, x.x, then(x.y, y)) : new Term(THEN, 0, x, y);
    }

    static Term either(Term x, Term y) {
        return new Term(EITHER, 0, x, y);
    }

    static Term again(Term x) {
        return new Term(AGAIN, 0, x, null);
    }

    static Term maybe(Term x) {
        return new Term(MAYBE, 0, x, null);
    }

    int cost() {
        int own = switch (kind) {
            case CLASS -> 3;
            case THEN -> 1;
            default -> 2;
        };
        return own + (x == null ? 0 : x.cost()) + (y == null ? 0 : y.cost());
    }

    int nodes() {
        return 1 + (x == null ? 0 : x.nodes()) + (y == null ? 0 : y.nodes());
    }

    int kinds() {
        return 1 << kind | (x == null ? 0 : x.kinds()) | (y == null ? 0 : y.kinds());
    }

    @Override
    public int compareTo(Term o) {
        if (cost() != o.cost()) {
            return Integer.compare(cost(), o.cost());
        }
        if (kind != o.kind) {
            return Integer.compare(kind, o.kind);
        }
        if (v != o.v) {
            return Integer.compare(v, o.v);
        }
        int byX = x == null ? 0 : x.compareTo(o.x);
        return byX != 0 || y == null ? byX : y.compareTo(o.y);
    }

    private static String letters(int s) {
        return ((s & 1) != 0 ? "a" : "") + ((s & 2) != 0 ? "b" : "") + ((s & 4) != 0 ? "c" : "");
    }

    String said() {
        return switch (kind) {
            case LETTER -> "abc".substring(v, v + 1);
            case CLASS -> "[" + letters(v) + "]";
            case THEN -> x.saidWithin(x.kind == EITHER) + y.saidWithin(y.kind == EITHER);
            case EITHER -> x.saidWithin(x.kind == EITHER) + "|" + y.said();
            default -> x.saidWithin(x.kind == THEN || x.kind == EITHER) + (kind == AGAIN ? "+" : "?");
        };
    }

    private String saidWithin(boolean enclosed) {
        return enclosed ? "(" + said() + ")" : said();
    }

    private String regex() {
        return switch (kind) {
            case LETTER, CLASS -> said();
            case THEN -> x.regex() + y.regex();
            case EITHER -> "(?:" + x.regex() + "|" + y.regex() + ")";
            default -> "(?:" + x.regex() + ")" + (kind == AGAIN ? "+" : "?");
        };
    }

    boolean fits(String row) {
        return REGEXES.computeIfAbsent(this, t -> Pattern.compile(t.regex())).matcher(row).matches();
    }

    private boolean fitsEmpty() {
        return switch (kind) {
            case LETTER, CLASS -> false;
            case THEN -> x.fitsEmpty() && y.fitsEmpty();
            case EITHER -> x.fitsEmpty() || y.fitsEmpty();
            case AGAIN -> x.fitsEmpty();
            default -> true;
        };
    }

    /** What may stand behind a letter: rows of terms, one of which has to be fit by the rest (Antimirov's way). */
    private Set<List<Term>> behind(int letter) {
        Set<List<Term>> all = new LinkedHashSet<>();
        switch (kind) {
            case LETTER -> {
                if (v == letter) {
                    all.add(List.of());
                }
            }
            case CLASS -> {
                if ((v >> letter & 1) == 1) {
                    all.add(List.of());
                }
            }
            case THEN -> all.addAll(behind(List.of(x, y), letter));
            case EITHER -> {
                all.addAll(x.behind(letter));
                all.addAll(y.behind(letter));
            }
            case AGAIN -> {
                for (List<Term> rest : x.behind(letter)) {
                    List<Term> more = new ArrayList<>(rest);
                    more.add(maybe(this));
                    all.add(more);
                }
            }
            default -> all.addAll(x.behind(letter));
        }
        return all;
    }

    private static Set<List<Term>> behind(List<Term> terms, int letter) {
        Set<List<Term>> all = new LinkedHashSet<>();
        for (int i = 0; i < terms.size(); i++) {
            for (List<Term> rest : terms.get(i).behind(letter)) {
                List<Term> more = new ArrayList<>(rest);
                more.addAll(terms.subList(i + 1, terms.size()));
                all.add(more);
            }
            if (!terms.get(i).fitsEmpty()) {
                break;
            }
        }
        return all;
    }

    private static boolean fitEmpty(Set<List<Term>> state) {
        return state.stream().anyMatch(terms -> terms.stream().allMatch(Term::fitsEmpty));
    }

    private static Set<List<Term>> behind(Set<List<Term>> state, int letter) {
        Set<List<Term>> all = new HashSet<>();
        for (List<Term> terms : state) {
            all.addAll(behind(terms, letter));
        }
        return all;
    }

    private record Two(Set<List<Term>> a, Set<List<Term>> b) {
    }

    /** The first row that just one of two fits (or a alone), as a text; null if there is none. */
    static String partingRow(Term a, Term b, boolean onlyOfA) {
        List<Two> states = new ArrayList<>();
        List<String> rows = new ArrayList<>();
        Set<Two> seen = new HashSet<>();
        states.add(new Two(Set.of(List.of(a)), Set.of(List.of(b))));
        rows.add("");
        seen.add(states.get(0));
        for (int i = 0; i < states.size(); i++) {
            Two at = states.get(i);
            boolean inA = fitEmpty(at.a);
            boolean inB = fitEmpty(at.b);
            if (inA && !inB || inB && !inA && !onlyOfA) {
                return rows.get(i);
            }
            for (int letter = 0; letter < 3; letter++) {
                Two to = new Two(behind(at.a, letter), behind(at.b, letter));
                if (seen.add(to)) {
                    states.add(to);
                    rows.add(rows.get(i) + (char) ('a' + letter));
                }
            }
        }
        return null;
    }
}
