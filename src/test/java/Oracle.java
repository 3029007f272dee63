import java.util.ArrayList;
import java.util.Arrays;
import java.util.Collections;
import java.util.Comparator;
import java.util.HashSet;
import java.util.LinkedHashSet;
import java.util.List;
import java.util.NoSuchElementException;
import java.util.Set;

/** The document's words taken one by one, slowly: what IslandHall is measured against. */
final class Oracle {
    static final List<String> KINDS = List.of("honest", "liar", "turner", "dayer", "free");

    /** A FAULT on the way through a text. */
    @SuppressWarnings("serial")
    static final class Fault extends Exception {
        final int number;
        final int place;

        Fault(int number, int place) {
            this.number = number;
            this.place = place;
        }
    }

    record Token(char type, String text, int place) {
    }

    record World(int[] kinds, boolean[] liarFirst, int road, int day, int yes) {
    }

    record Event(int who, Expr expr, int word) {
    }

    record Saying(int who, int sentence) {
    }

    interface Expr {
        /** Whether it is so in a world, so many events having been, whose sentences were so then or not. */
        boolean so(Oracle o, World w, List<Event> events, int been);
    }

    private final List<Byte> tape = new ArrayList<>();
    int people = 0;
    int roads = 1;
    int lies = 0;
    private List<Set<Integer>> may = new ArrayList<>();
    private List<World> keeping = new ArrayList<>();
    private final List<Expr> sentences = new ArrayList<>();
    private List<Event> events = new ArrayList<>();
    private final List<Saying> questions = new ArrayList<>();
    private int fault = -1;
    private World hidden = null;
    private int seed = 0;
    private int kept = -1;
    private List<Integer> riddle = List.of();

    Oracle() {
        keeping.add(new World(new int[0], new boolean[0], 0, 0, 0));
    }

    int feed(int a, int b, int c, int d, int e) {
        if (tape.size() > 480) {
            return -1;
        }
        for (int number : new int[] {a, b, c, d, e}) {
            for (byte x : java.nio.ByteBuffer.allocate(4).putInt(number).array()) {
                tape.add(x);
            }
        }
        return tape.size();
    }

    private String take(int n) {
        if (n < 0 || n > tape.size()) {
            throw new IllegalArgumentException();
        }
        StringBuilder text = new StringBuilder();
        for (int i = 0; i < n; i++) {
            text.append((char) (tape.get(i) & 255));
        }
        tape.clear();
        return text.toString();
    }

    int island(int n) {
        String text = take(n);
        Reading r = new Reading(text, -1);
        try {
            r.island();
        } catch (Fault f) {
            fault = f.place;
            return f.number;
        }
        fault = -1;
        people = r.people;
        roads = r.roads;
        lies = r.lies;
        may = r.may;
        sentences.clear();
        events.clear();
        questions.clear();
        hidden = null;
        kept = -1;
        riddle = List.of();
        keeping = new ArrayList<>();
        for (World w : r.allWorlds()) {
            boolean keeps = true;
            for (Expr fact : r.facts) {
                keeps = keeps && fact.so(this, w, new ArrayList<>(), 0);
            }
            if (keeps) {
                keeping.add(w);
            }
        }
        return 0;
    }

    int sentence(int n) {
        String text = take(n);
        if (sentences.size() == 30) {
            fault = -1;
            return -9;
        }
        try {
            sentences.add(new Reading(text, people).sentence());
        } catch (Fault f) {
            fault = f.place;
            return -1 - f.number;
        }
        fault = -1;
        return sentences.size() - 1;
    }

    int fault() {
        return fault;
    }

    int count(int what) {
        need(what >= 0 && what <= 7);
        return List.of(people, roads, sentences.size(), events.size(), questions.size(), tape.size(), lies,
                hidden == null ? 0 : 1).get(what);
    }

    private static void need(boolean there) {
        if (!there) {
            throw new NoSuchElementException();
        }
    }

    private void needBoth(int who, int sentence) {
        need(who >= 0 && who < people);
        need(sentence >= 0 && sentence < sentences.size());
    }

    int may(int who, int what) {
        need(who >= 0 && who < people && (what == 0 || what == 1));
        Set<Integer> kinds = new HashSet<>();
        if (what == 0) {
            kinds = may.get(who);
        } else {
            for (World w : fitting()) {
                kinds.add(w.kinds[who]);
            }
        }
        return bits(kinds);
    }

    private static int bits(Iterable<Integer> numbers) {
        int bits = 0;
        for (int n : numbers) {
            bits |= 1 << n;
        }
        return bits;
    }

    int says(int who, int sentence) {
        needBoth(who, sentence);
        return happens(who, sentences.get(sentence), -1);
    }

    int answers(int who, int sentence, int word) {
        needBoth(who, sentence);
        need(word == 0 || word == 1);
        return happens(who, sentences.get(sentence), word);
    }

    private int happens(int who, Expr expr, int word) {
        if (events.size() == 12) {
            return -1;
        }
        events.add(new Event(who, expr, word));
        return events.size() - 1;
    }

    int back() {
        if (events.isEmpty()) {
            return -1;
        }
        events.remove(events.size() - 1);
        return events.size();
    }

    private boolean isFree(World w, int who) {
        return w.kinds[who] == 4;
    }

    /** Whether one is honest at its next event, so many events having been. */
    boolean honest(World w, int who, List<Event> list, int been) {
        int own = 0;
        for (int i = 0; i < been; i++) {
            own += list.get(i).who == who ? 1 : 0;
        }
        switch (w.kinds[who]) {
            case 0:
                return true;
            case 1:
                return false;
            case 2:
                return w.liarFirst[who] == (own % 2 == 1);
            case 3:
                return (lies & (1 << w.day)) == 0;
            default:
                throw new IllegalStateException();
        }
    }

    boolean couldSay(World w, int who, boolean so, List<Event> list, int been) {
        return isFree(w, who) || so == honest(w, who, list, been);
    }

    private boolean fits(World w, List<Event> list, int i) {
        Event e = list.get(i);
        if (isFree(w, e.who)) {
            return true;
        }
        boolean so = e.expr.so(this, w, list, i);
        boolean yes = e.word == -1 || e.word == w.yes;
        return yes == (so == honest(w, e.who, list, i));
    }

    /** The worlds that keep facts and fit all events but those left out. */
    private List<World> fitting(List<Event> list, int in) {
        List<World> answer = new ArrayList<>();
        for (World w : keeping) {
            boolean all = true;
            for (int i = 0; i < list.size(); i++) {
                all = all && ((in >> i & 1) == 0 || fits(w, list, i));
            }
            if (all) {
                answer.add(w);
            }
        }
        return answer;
    }

    private List<World> fitting() {
        return fitting(events, -1);
    }

    int worlds(int what) {
        need(what == 0 || what == 1);
        return what == 0 ? keeping.size() : fitting().size();
    }

    int world(int i, int what) {
        List<World> fit = fitting();
        need(i >= 0 && i < fit.size());
        World w = fit.get(i);
        if (what >= 16 && what <= 18) {
            return what == 16 ? w.road : what == 17 ? w.day : w.yes;
        }
        if (what >= 8 && what <= 14) {
            need(what - 8 < people);
            return w.liarFirst[what - 8] ? 1 : 0;
        }
        need(what >= 0 && what < people);
        return w.kinds[what];
    }

    private String answer(World w, int what) {
        return what == 0 ? Arrays.toString(w.kinds) : String.valueOf(what == 1 ? w.road : what == 2 ? w.day : w.yes);
    }

    private Set<String> answers(List<World> list, int what) {
        Set<String> found = new LinkedHashSet<>();
        for (World w : list) {
            found.add(answer(w, what));
        }
        return found;
    }

    int told(int what) {
        need(what >= 0 && what <= 3);
        return answers(fitting(), what).size();
    }

    int can(int what) {
        need(what >= 1 && what <= 3);
        Set<Integer> found = new HashSet<>();
        for (String s : answers(fitting(), what)) {
            found.add(Integer.parseInt(s));
        }
        return bits(found);
    }

    int could(int who, int sentence) {
        if (who == -1) {
            need(sentence >= 0 && sentence < sentences.size());
        } else {
            needBoth(who, sentence);
        }
        int number = 0;
        for (World w : fitting()) {
            boolean so = sentences.get(sentence).so(this, w, events, events.size());
            number += (who == -1 ? so : couldSay(w, who, so, events, events.size())) ? 1 : 0;
        }
        return number;
    }

    int needless() {
        int bits = 0;
        int all = fitting().size();
        for (int i = 0; i < events.size(); i++) {
            bits |= fitting(events, ~(1 << i)).size() == all ? 1 << i : 0;
        }
        return bits;
    }

    /** Sets by how many they have, then by the least one that not both have. */
    private static final Comparator<Integer> ORDER = (a, b) -> {
        if (Integer.bitCount(a) != Integer.bitCount(b)) {
            return Integer.bitCount(a) - Integer.bitCount(b);
        }
        int differ = Integer.lowestOneBit(a ^ b);
        return differ == 0 ? 0 : (a & differ) != 0 ? -1 : 1;
    };

    private List<Integer> setsInOrder() {
        List<Integer> sets = new ArrayList<>();
        for (int i = 0; i < 1 << events.size(); i++) {
            sets.add(i);
        }
        Collections.sort(sets, ORDER);
        return sets;
    }

    /** For each world which events it fits. */
    private int[] fitMasks() {
        int[] masks = new int[keeping.size()];
        for (int w = 0; w < masks.length; w++) {
            for (int i = 0; i < events.size(); i++) {
                masks[w] |= fits(keeping.get(w), events, i) ? 1 << i : 0;
            }
        }
        return masks;
    }

    int enough(int what) {
        need(what >= 0 && what <= 3);
        int[] masks = fitMasks();
        int due = answers(fitting(), what).size();
        for (int set : setsInOrder()) {
            Set<String> found = new HashSet<>();
            for (int w = 0; w < masks.length && found.size() <= due; w++) {
                if ((masks[w] & set) == set) {
                    found.add(answer(keeping.get(w), what));
                }
            }
            if (found.size() == due) {
                return set;
            }
        }
        throw new IllegalStateException();
    }

    private List<Integer> allKnots() {
        int[] masks = fitMasks();
        boolean[] some = new boolean[1 << events.size()];
        for (int set = 0; set < some.length; set++) {
            for (int m : masks) {
                some[set] |= (m & set) == set;
            }
        }
        List<Integer> knots = new ArrayList<>();
        for (int set : setsInOrder()) {
            boolean knot = !some[set];
            for (int within = (set - 1) & set; knot && set != 0; within = (within - 1) & set) {
                knot = some[within];
                if (within == 0) {
                    break;
                }
            }
            if (knot) {
                knots.add(set);
            }
        }
        return knots;
    }

    int knots() {
        return allKnots().size();
    }

    int knot(int i) {
        List<Integer> knots = allKnots();
        need(i >= 0 && i < knots.size());
        return knots.get(i);
    }

    int question(int who, int sentence) {
        needBoth(who, sentence);
        if (questions.size() == 10) {
            return -1;
        }
        questions.add(new Saying(who, sentence));
        return questions.size() - 1;
    }

    int fewest(int what) {
        need(what >= 0 && what <= 3);
        List<World> fit = fitting();
        if (fit.size() > 100) {
            return -2;
        }
        if (answers(fit, what).size() <= 1) {
            kept = -1;
            return 0;
        }
        for (int n = 1; n <= 3; n++) {
            for (int q = 0; q < questions.size(); q++) {
                if (settled(fit, events, q, n - 1, what)) {
                    kept = q;
                    return n;
                }
            }
        }
        return -1;
    }

    private boolean settled(List<World> list, List<Event> been, int q, int more, int what) {
        Saying s = questions.get(q);
        for (int word = 0; word < 2; word++) {
            List<Event> next = new ArrayList<>(been);
            next.add(new Event(s.who, sentences.get(s.sentence), word));
            List<World> rest = new ArrayList<>();
            for (World w : list) {
                if (fits(w, next, been.size())) {
                    rest.add(w);
                }
            }
            boolean ok = answers(rest, what).size() <= 1;
            for (int p = 0; p < questions.size() && !ok && more > 0; p++) {
                ok = settled(rest, next, p, more - 1, what);
            }
            if (!ok) {
                return false;
            }
        }
        return true;
    }

    int first() {
        return kept;
    }

    boolean hide(int i, int newSeed) {
        List<World> fit = fitting();
        if (i < 0 || i >= fit.size()) {
            return false;
        }
        hidden = fit.get(i);
        seed = newSeed;
        return true;
    }

    int reply(int question) {
        need(question >= 0 && question < questions.size());
        if (events.size() == 12 || hidden == null) {
            return -1;
        }
        Saying s = questions.get(question);
        Expr expr = sentences.get(s.sentence);
        int word;
        if (isFree(hidden, s.who)) {
            seed = seed * 1103515245 + 12345;
            word = ((seed >> 16) & 0x7fff) % 2;
        } else {
            boolean so = expr.so(this, hidden, events, events.size());
            boolean yes = so == honest(hidden, s.who, events, events.size());
            word = yes ? hidden.yes : 1 - hidden.yes;
        }
        events.add(new Event(s.who, expr, word));
        return word;
    }

    int riddle(int what) {
        need(what >= 0 && what <= 3);
        if (events.size() > 10) {
            return -1;
        }
        List<World> fit = fitting();
        if (fit.size() > 300) {
            return -2;
        }
        List<Integer> sayings = new ArrayList<>();
        for (int x = 0; x < 30 * people; x++) {
            if (x % 30 < sentences.size()) {
                sayings.add(x);
            }
        }
        for (int x : sayings) {
            if (leavesOne(fit, what, x)) {
                riddle = List.of(x);
                return 1;
            }
        }
        for (int x : sayings) {
            for (int y : sayings) {
                if (x <= y && leavesOne(fit, what, x, y)) {
                    riddle = List.of(x, y);
                    return 2;
                }
            }
        }
        return -1;
    }

    private boolean leavesOne(List<World> fit, int what, int... lines) {
        List<Event> next = new ArrayList<>(events);
        for (int x : lines) {
            next.add(new Event(x / 30, sentences.get(x % 30), -1));
        }
        Set<String> found = new HashSet<>();
        for (World w : fit) {
            boolean all = true;
            for (int i = events.size(); i < next.size(); i++) {
                all = all && fits(w, next, i);
            }
            if (all) {
                found.add(answer(w, what));
            }
        }
        return found.size() == 1;
    }

    int line(int i) {
        need(i >= 0 && i < riddle.size());
        return riddle.get(i);
    }

    /** A text read token by token; the first fault ends it. */
    private static final class Reading {
        private final List<Token> tokens = new ArrayList<>();
        private final int length;
        private int at = 0;
        int people;
        int roads = 1;
        int day = -1;
        int lies = 0;
        boolean liesTold = false;
        boolean words = false;
        List<Set<Integer>> may = new ArrayList<>();
        List<Expr> facts = new ArrayList<>();

        Reading(String text, int people) {
            this.people = people;
            length = text.length();
            java.util.regex.Matcher m =
                    java.util.regex.Pattern.compile("[a-z]+|[0-9]+|[;()<=>]|[ \n]+|.", java.util.regex.Pattern.DOTALL)
                            .matcher(text);
            while (m.find()) {
                char c = m.group().charAt(0);
                if (c == ' ' || c == '\n') {
                    continue;
                }
                char type = c >= 'a' && c <= 'z' ? 'w' : c >= '0' && c <= '9' ? 'n' : ";()<=>".indexOf(c) >= 0 ? 's' : '?';
                tokens.add(new Token(type, m.group(), m.start()));
            }
            tokens.add(new Token('e', "", length));
        }

        private Token now() {
            return tokens.get(at);
        }

        private Fault fault(int number) {
            return new Fault(number, now().place);
        }

        private boolean is(String text) {
            return now().type != 'e' && now().text.equals(text);
        }

        private boolean skip(String text) {
            if (is(text)) {
                at++;
                return true;
            }
            return false;
        }

        private void must(String text) throws Fault {
            if (!skip(text)) {
                throw fault(1);
            }
        }

        private int number(int least, int most) throws Fault {
            if (now().type != 'n') {
                throw fault(1);
            }
            if (now().text.length() > 3 || Integer.parseInt(now().text) < least || Integer.parseInt(now().text) > most) {
                throw fault(2);
            }
            return Integer.parseInt(tokens.get(at++).text);
        }

        private boolean nameHere() {
            return now().type == 'w' && now().text.length() == 1;
        }

        private int name() throws Fault {
            if (!nameHere()) {
                throw fault(1);
            }
            if (now().text.charAt(0) - 'a' >= people) {
                throw fault(4);
            }
            return tokens.get(at++).text.charAt(0) - 'a';
        }

        private int kind() throws Fault {
            if (now().type != 'w') {
                throw fault(1);
            }
            if (!KINDS.contains(now().text)) {
                throw fault(3);
            }
            return KINDS.indexOf(tokens.get(at++).text);
        }

        void island() throws Fault {
            must("people");
            people = number(0, 7);
            must(";");
            for (int p = 0; p < people; p++) {
                may.add(Set.of(0, 1));
            }
            while (now().type != 'e') {
                if (skip("may")) {
                    int who = name();
                    Set<Integer> kinds = new HashSet<>();
                    kinds.add(kind());
                    while (KINDS.contains(now().text)) {
                        if (kinds.contains(KINDS.indexOf(now().text))) {
                            throw fault(5);
                        }
                        kinds.add(kind());
                    }
                    may.set(who, kinds);
                } else if (skip("roads")) {
                    roads = number(1, 4);
                } else if (skip("day")) {
                    day = number(0, 6);
                } else if (skip("lies")) {
                    lies = 1 << number(0, 6);
                    liesTold = true;
                    while (now().type == 'n') {
                        lies |= 1 << number(0, 6);
                    }
                } else if (skip("words")) {
                    words = true;
                } else if (skip("fact")) {
                    facts.add(expr(0));
                } else {
                    throw fault(1);
                }
                must(";");
            }
            long number = (long) roads * (day >= 0 || !liesTold ? 1 : 7) * (words ? 2 : 1);
            for (Set<Integer> kinds : may) {
                number *= kinds.size() + (kinds.contains(2) ? 1 : 0);
            }
            if (number > 3000) {
                throw new Fault(6, length);
            }
        }

        List<World> allWorlds() {
            List<World> list = new ArrayList<>();
            spread(new int[people], new boolean[people], 0, list);
            return list;
        }

        private void spread(int[] kinds, boolean[] liarFirst, int p, List<World> list) {
            if (p < people) {
                for (int k = 0; k < 5; k++) {
                    for (int f = 0; f < (k == 2 ? 2 : 1) && may.get(p).contains(k); f++) {
                        int[] nextKinds = kinds.clone();
                        boolean[] nextFirst = liarFirst.clone();
                        nextKinds[p] = k;
                        nextFirst[p] = f == 1;
                        spread(nextKinds, nextFirst, p + 1, list);
                    }
                }
                return;
            }
            for (int r = 0; r < roads; r++) {
                for (int d = 0; d < 7; d++) {
                    boolean dayIs = day >= 0 ? d == day : liesTold || d == 0;
                    for (int y = 0; y < (words ? 2 : 1) && dayIs; y++) {
                        list.add(new World(kinds, liarFirst, r, d, y));
                    }
                }
            }
        }

        Expr sentence() throws Fault {
            Expr e = expr(0);
            must(";");
            if (now().type != 'e') {
                throw fault(1);
            }
            return e;
        }

        private Expr expr(int within) throws Fault {
            boolean can = nameHere() || is("not") || is("(") || is("road") || is("day") || is("many") || is("word")
                    || is("told");
            if (can && within == 6) {
                throw fault(2);
            }
            Expr e = and(within);
            while (skip("or")) {
                Expr one = e;
                Expr two = and(within);
                e = (o, w, l, n) -> one.so(o, w, l, n) || two.so(o, w, l, n);
            }
            return e;
        }

        private Expr and(int within) throws Fault {
            Expr e = not(within, 0);
            while (skip("and")) {
                Expr one = e;
                Expr two = not(within, 0);
                e = (o, w, l, n) -> one.so(o, w, l, n) && two.so(o, w, l, n);
            }
            return e;
        }

        private Expr not(int within, int nots) throws Fault {
            if (is("not")) {
                if (nots == 6) {
                    throw fault(2);
                }
                at++;
                Expr e = not(within, nots + 1);
                return (o, w, l, n) -> !e.so(o, w, l, n);
            }
            if (skip("(")) {
                Expr e = expr(within + 1);
                must(")");
                return e;
            }
            return atom(within);
        }

        private Expr atom(int within) throws Fault {
            if (nameHere()) {
                return someone(name(), within);
            }
            if (skip("road")) {
                int x = number(0, 3);
                return (o, w, l, n) -> w.road == x;
            }
            if (skip("day")) {
                int x = number(0, 6);
                return (o, w, l, n) -> w.day == x;
            }
            if (skip("word")) {
                int x = number(0, 1);
                return (o, w, l, n) -> w.yes == x;
            }
            if (skip("told")) {
                int x = number(0, 99);
                return (o, w, l, n) -> x < n && l.get(x).expr.so(o, w, l, x);
            }
            must("many");
            int kind = kind();
            String sign = now().text;
            if (!is("<") && !is("=") && !is(">")) {
                throw fault(1);
            }
            at++;
            int x = number(0, 99);
            return (o, w, l, n) -> {
                int many = 0;
                for (int k : w.kinds) {
                    many += k == kind ? 1 : 0;
                }
                return sign.equals("<") ? many < x : sign.equals("=") ? many == x : many > x;
            };
        }

        private Expr someone(int who, int within) throws Fault {
            if (skip("is")) {
                int kind = kind();
                return (o, w, l, n) -> w.kinds[who] == kind;
            }
            if (skip("as")) {
                int other = name();
                return (o, w, l, n) -> w.kinds[who] == w.kinds[other];
            }
            must("says");
            must("(");
            Expr e = expr(within + 1);
            must(")");
            return (o, w, l, n) -> o.couldSay(w, who, e.so(o, w, l, n), l, n);
        }
    }
}
