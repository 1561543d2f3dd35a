import java.util.ArrayList;
import java.util.List;

/** The document's section 3, for the model: faults by a state that goes byte by byte, patterns by cutting texts. */
final class Text {
    private Text() {
    }

    /** The place of the first fault; -1 if there is none. */
    static int fault(String text) {
        int open = 0;
        boolean behindPart = false;
        int inClass = -1;
        for (int i = 0; i < text.length(); i++) {
            char sign = text.charAt(i);
            if (inClass >= 0) {
                if (sign == ']' && inClass > 0) {
                    inClass = -1;
                    behindPart = true;
                } else if (sign >= 'a' + inClass && sign <= 'c') {
                    inClass = sign - 'a' + 1;
                } else {
                    return i;
                }
                continue;
            }
            switch (sign) {
                case 'a', 'b', 'c' -> behindPart = true;
                case '[' -> inClass = 0;
                case '(' -> {
                    open++;
                    behindPart = false;
                    if (open > 6) {
                        return i;
                    }
                }
                case ')', '+', '?', '|' -> {
                    if (!behindPart || sign == ')' && open == 0) {
                        return i;
                    }
                    open -= sign == ')' ? 1 : 0;
                    behindPart = sign != '|';
                }
                default -> {
                    return i;
                }
            }
        }
        return inClass < 0 && open == 0 && behindPart ? -1 : text.length();
    }

    /** The pattern of a text without fault. */
    static Term pattern(String text) {
        List<String> choices = cut(text, true);
        Term term = chain(choices.get(choices.size() - 1));
        for (int i = choices.size() - 2; i >= 0; i--) {
            term = Term.either(chain(choices.get(i)), term);
        }
        return term;
    }

    private static Term chain(String text) {
        List<String> parts = cut(text, false);
        Term term = part(parts.get(parts.size() - 1));
        for (int i = parts.size() - 2; i >= 0; i--) {
            term = Term.then(part(parts.get(i)), term);
        }
        return term;
    }

    private static Term part(String text) {
        String ahead = text.substring(0, text.length() - 1);
        return switch (text.charAt(text.length() - 1)) {
            case '+' -> Term.again(part(ahead));
            case '?' -> Term.maybe(part(ahead));
            case ')' -> pattern(ahead.substring(1));
            case ']' -> Term.ofClass((text.contains("a") ? 1 : 0) + (text.contains("b") ? 2 : 0)
                    + (text.contains("c") ? 4 : 0));
            default -> Term.letter(text.charAt(0) - 'a');
        };
    }

    /** Cuts at each | that stands in no parentheses, or ahead of each part that stands in none. */
    private static List<String> cut(String text, boolean atChoices) {
        List<String> pieces = new ArrayList<>();
        StringBuilder piece = new StringBuilder();
        int depth = 0;
        for (char sign : text.toCharArray()) {
            boolean choice = depth == 0 && sign == '|';
            boolean begin = depth == 0 && "abc[(".indexOf(sign) >= 0;
            if (piece.length() > 0 && (atChoices ? choice : begin)) {
                pieces.add(piece.toString());
                piece.setLength(0);
            }
            if (!(atChoices && choice)) {
                piece.append(sign);
            }
            depth += sign == '(' || sign == '[' ? 1 : sign == ')' || sign == ']' ? -1 : 0;
        }
        pieces.add(piece.toString());
        return pieces;
    }
}
