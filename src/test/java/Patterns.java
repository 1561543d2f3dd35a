import java.util.ArrayList;
import java.util.List;

/** All patterns of a cost of at most 10 in their order, for the model and the tests: made, and then sorted. */
final class Patterns {
    private static final List<List<Term>> BY_COST = make();

    private Patterns() {
    }

    static List<Term> of(int cost) {
        return cost >= 0 && cost < BY_COST.size() ? BY_COST.get(cost) : List.of();
    }

    static List<Term> all() {
        List<Term> all = new ArrayList<>();
        BY_COST.forEach(all::addAll);
        return all;
    }

    private static List<List<Term>> make() {
        List<List<Term>> byCost = new ArrayList<>(List.of(List.of(), List.of()));
        for (int cost = 2; cost <= 10; cost++) {
            List<Term> here = new ArrayList<>();
            for (int v = 0; v < 3 && cost == 2; v++) {
                here.add(Term.letter(v));
            }
            for (int s = 1; s < 8 && cost == 3; s++) {
                here.add(Term.ofClass(s));
            }
            for (int i = 2; i < cost; i++) {
                for (Term x : byCost.get(i)) {
                    if (cost - 1 - i >= 2 && x.kind() != Term.THEN) {
                        byCost.get(cost - 1 - i).forEach(y -> here.add(Term.then(x, y)));
                    }
                    if (cost - 2 - i >= 2) {
                        byCost.get(cost - 2 - i).forEach(y -> here.add(Term.either(x, y)));
                    }
                }
            }
            byCost.get(cost - 2).forEach(x -> here.add(Term.again(x)));
            byCost.get(cost - 2).forEach(x -> here.add(Term.maybe(x)));
            here.sort(null);
            byCost.add(here);
        }
        return byCost;
    }
}
