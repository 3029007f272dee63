import java.util.List;

/** Numbers and texts that look random and are the same in every run. */
final class Dice {
    private long state;

    Dice(long seed) {
        state = seed * 0x9E3779B97F4A7C15L + 1;
    }

    int below(int n) {
        state ^= state << 13;
        state ^= state >>> 7;
        state ^= state << 17;
        return (int) ((state >>> 20) % n);
    }

    boolean once(int in) {
        return below(in) == 0;
    }

    <T> T one(List<T> list) {
        return list.get(below(list.size()));
    }

    /** A number at the edge of something. */
    int edge() {
        return one(List.of(Integer.MIN_VALUE, Integer.MIN_VALUE + 1, -9, -2, -1, 0, 3, 4, 6, 7, 8, 10, 12, 14, 15, 16, 18, 19, 29,
                30, 31, 63, 64, 500, 3000, Integer.MAX_VALUE - 1, Integer.MAX_VALUE));
    }

    String kind() {
        return one(Oracle.KINDS);
    }

    private String name(int people) {
        return String.valueOf((char) ('a' + below(people)));
    }

    String expr(int people, int depth) {
        switch (below(depth > 0 ? 12 : 8)) {
            case 0:
                return "road " + below(4);
            case 1:
                return "day " + below(7);
            case 2:
                return "told " + below(once(5) ? 16 : 6);
            case 3:
                return once(2) ? "word " + below(2) : "many " + kind() + one(List.of("<", "=", ">")) + below(once(9) ? 99 : 5);
            case 4:
            case 5:
            case 6:
                return people == 0 ? "road 0" : name(people) + " is " + kind();
            case 7:
                return people == 0 ? "road 1" : name(people) + " as " + name(people);
            case 8:
                return "not " + (once(2) ? "(" + expr(people, depth - 1) + ")" : expr(people, 0));
            case 9:
                return people == 0 ? "road 0" : name(people) + " says (" + expr(people, depth - 1) + ")";
            case 10:
                return expr(people, depth - 1) + " and " + expr(people, depth - 1);
            default:
                return (once(2) ? "(" : "( not ") + expr(people, depth - 1) + ") or " + expr(people, depth - 1);
        }
    }

    String island(int people) {
        StringBuilder s = new StringBuilder("people " + people + ";");
        for (int p = 0; p < people; p++) {
            if (!once(3)) {
                s.append("may ").append((char) ('a' + p));
                int number = 1 + below(once(4) ? 5 : 2);
                int from = below(5);
                for (int k = 0; k < number; k++) {
                    s.append(' ').append(Oracle.KINDS.get((from + k * 2) % 5));
                }
                s.append(';');
            }
        }
        if (once(2)) {
            s.append("roads ").append(1 + below(4)).append(';');
        }
        if (once(2)) {
            s.append("lies ").append(below(7)).append(once(2) ? " " + below(7) : "").append(';');
        }
        if (once(4)) {
            s.append("day ").append(below(7)).append(';');
        }
        if (once(2)) {
            s.append("words;");
        }
        for (int i = 0; i < 2 && once(4); i++) {
            s.append("fact ").append(expr(people, 2)).append(';');
        }
        return s.toString();
    }

    private static final List<String> TOKENS = List.of("people", "may", "roads", "day", "lies", "words", "fact", "honest",
            "liar", "turner", "dayer", "free", "or", "and", "not", "is", "as", "says", "road", "many", "word", "told",
            "a", "b", "g", "z", "ab", "foo", "0", "1", "4", "7", "8", "99", "100", "0007", "007", ";", "(", ")", "<", "=", ">",
            "-", "A", "\t", "\n", "((((((", "not not not", "not not not not not not", "a says(b says(a says(b says(",
            "\u00e9", "", " ");

    /** A text with a token put in, taken out or put in another's place, or cut off. */
    String spoilt(String text) {
        java.util.List<String> tokens = new java.util.ArrayList<>();
        java.util.regex.Matcher m = java.util.regex.Pattern.compile("[a-z]+|[0-9]+|[^ ]").matcher(text);
        while (m.find()) {
            tokens.add(m.group());
        }
        int at = below(Math.max(1, tokens.size()));
        switch (below(8)) {
            case 0:
                return text.substring(0, below(text.length() + 1));
            case 1:
                tokens.remove(at);
                break;
            case 2:
                tokens.add(at, one(TOKENS));
                break;
            case 3:
                tokens.add(at, tokens.get(at));
                break;
            default:
                tokens.set(at, one(TOKENS));
                break;
        }
        return once(2) ? String.join(" ", tokens) : joinedClosely(tokens);
    }

    /** Blanks only where two tokens would become one. */
    private static String joinedClosely(List<String> tokens) {
        StringBuilder s = new StringBuilder();
        for (String t : tokens) {
            if (s.length() > 0 && !t.isEmpty() && type(t.charAt(0)) != 0 && type(t.charAt(0)) == type(s.charAt(s.length() - 1))) {
                s.append('\n');
            }
            s.append(t);
        }
        return s.toString();
    }

    private static int type(char c) {
        return c >= 'a' && c <= 'z' ? 1 : c >= '0' && c <= '9' ? 2 : 0;
    }
}
