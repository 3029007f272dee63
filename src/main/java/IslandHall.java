import java.util.Arrays;
import java.util.NoSuchElementException;

/** Islanders who lie: every island that fits what was said, and the questions that tell them apart. */
public final class IslandHall {
    public static final int NONE = -1;

    private static final int MOST_BYTES = 500;
    private static final int MOST_PEOPLE = 7;
    private static final int MOST_SENTENCES = 30;
    private static final int MOST_EVENTS = 12;
    private static final int MOST_QUESTIONS = 10;
    private static final int MOST_WORLDS = 3000;
    private static final int MOST_ASKED_OF = 100;
    private static final int MOST_RIDDLED = 300;
    private static final int MOST_ASKED = 3;
    private static final int TOO_MANY = -2;
    private static final int NO_ROOM = -9;
    private static final int ANSWER_KINDS = 4;

    private static final int HONEST = 0;
    private static final int LIAR = 1;
    private static final int TURNER = 2;
    private static final int DAYER = 3;
    private static final int FREE = 4;
    private static final int KINDS = 5;

    // A CODE is a KIND, but a TURNER has two: the one that begins HONEST and the one that doesn't.
    private static final int CODES = 6;
    private static final int LATE_TURNER = 3;
    private static final int[] KIND_OF_CODE = {HONEST, LIAR, TURNER, TURNER, DAYER, FREE};

    private static final int WHO = 0;
    private static final int ROAD = 1;
    private static final int DAY = 2;
    private static final int WORD = 3;

    // The rows of a Realm; the steps of an EXPR name them by these numbers.
    private static final int KIND_ROWS = 0;
    private static final int ROAD_ROWS = KIND_ROWS + MOST_PEOPLE * KINDS;
    private static final int DAY_ROWS = ROAD_ROWS + 4;
    private static final int WORD_ROWS = DAY_ROWS + 7;
    private static final int MANY_ROWS = WORD_ROWS + 2;
    private static final int HONEST_ROWS = MANY_ROWS + KINDS * (MOST_PEOPLE + 1);
    private static final int TOLD_ROWS = HONEST_ROWS + 2 * MOST_PEOPLE;
    private static final int MOST_TOLD = MOST_EVENTS + MOST_ASKED;
    private static final int EMPTY_ROW = TOLD_ROWS + MOST_TOLD;
    private static final int FULL_ROW = EMPTY_ROW + 1;
    private static final int ROWS = FULL_ROW + 1;

    // The steps of an EXPR, operands ahead of their sign: a sign and, above it, what it is about.
    private static final int STEP_ROW = 0;
    private static final int STEP_NOT = 1;
    private static final int STEP_AND = 2;
    private static final int STEP_OR = 3;
    private static final int STEP_SAYS = 4;
    private static final int STEP_AS = 5;
    private static final int STEP_MANY = 6;
    private static final int STEP_BITS = 3;
    private static final int MOST_STEPS = 256;

    private final byte[] tape = new byte[MOST_BYTES];
    private int tapeLength = 0;
    private final Plan plan = new Plan();
    private final Code facts = new Code();
    private final Parser parser = new Parser(tape, facts);
    private int faultPlace = NONE;
    private final Realm realm = new Realm(MOST_WORLDS);
    private final Tale tale = new Tale(realm);
    private final Code[] sentences = new Code[MOST_SENTENCES];
    private int sentenceCount = 0;
    private final int[] questions = new int[MOST_QUESTIONS];
    private int questionCount = 0;
    private final Subsets subsets = new Subsets();
    private int hidden = NONE;
    private int seed = 0;
    private final Crowd crowd = new Crowd(MOST_RIDDLED);
    private final Asker asker = new Asker(crowd, sentences, questions);
    private final Riddler riddler = new Riddler(crowd, sentences);

    public IslandHall() {
        for (int i = 0; i < sentences.length; i++) {
            sentences[i] = new Code();
        }
        plan.reset();
        facts.startFacts();
        realm.settle(plan);
        tale.begin(facts);
    }

    public int feed(int a, int b, int c, int d, int e) {
        if (tapeLength + 20 > MOST_BYTES) {
            return NONE;
        }
        putNumber(a);
        putNumber(b);
        putNumber(c);
        putNumber(d);
        putNumber(e);
        return tapeLength;
    }

    private void putNumber(int number) {
        for (int shift = 24; shift >= 0 && tapeLength < tape.length; shift -= 8) {
            tape[tapeLength] = (byte) (number >> shift);
            tapeLength++;
        }
    }

    public int island(int n) throws IllegalArgumentException {
        takeTape(n);
        int found = parser.readIsland(n, facts);
        faultPlace = parser.place;
        if (found != 0) {
            return found;
        }
        plan.copy(parser.draft);
        realm.settle(plan);
        tale.begin(facts);
        subsets.forget();
        sentenceCount = 0;
        questionCount = 0;
        hidden = NONE;
        asker.kept = NONE;
        riddler.length = 0;
        return 0;
    }

    public int sentence(int n) throws IllegalArgumentException {
        takeTape(n);
        if (sentenceCount >= MOST_SENTENCES) {
            faultPlace = NONE;
            return NO_ROOM;
        }
        int found = parser.readSentence(n, plan.people, sentences[sentenceCount]);
        faultPlace = parser.place;
        if (found != 0) {
            return -1 - found;
        }
        sentenceCount++;
        return sentenceCount - 1;
    }

    /** The tape is empty then; its bytes are still there to be read. */
    private void takeTape(int n) {
        if (n < 0 || n > tapeLength) {
            throw new IllegalArgumentException("the tape has not so many bytes");
        }
        tapeLength = 0;
    }

    public int fault() {
        return faultPlace;
    }

    public int count(int what) throws NoSuchElementException {
        switch (what) {
            case 0:
                return plan.people;
            case 1:
                return plan.roads;
            case 2:
                return sentenceCount;
            case 3:
                return tale.length;
            case 4:
                return questionCount;
            case 5:
                return tapeLength;
            case 6:
                return plan.lies;
            case 7:
                return hidden == NONE ? 0 : 1;
            default:
                throw new NoSuchElementException("nothing such is counted");
        }
    }

    public int may(int who, int what) throws NoSuchElementException {
        needPerson(who);
        if (what == 0) {
            return plan.may[who];
        }
        if (what != 1) {
            throw new NoSuchElementException("0 by the text, 1 in worlds that fit");
        }
        return realm.meetings(tale.fitting(), KIND_ROWS + who * KINDS, KINDS);
    }

    public int says(int who, int sentence) throws NoSuchElementException {
        needPerson(who);
        needSentence(sentence);
        return record(who, sentence, NONE);
    }

    public int answers(int who, int sentence, int word) throws NoSuchElementException {
        needPerson(who);
        needSentence(sentence);
        if (word < 0 || word > 1) {
            throw new NoSuchElementException("no such word");
        }
        return record(who, sentence, word);
    }

    private int record(int who, int sentence, int word) {
        if (tale.length >= MOST_EVENTS) {
            return NONE;
        }
        subsets.forget();
        return tale.add(who, sentences[sentence], word);
    }

    public int back() {
        if (tale.length == 0) {
            return NONE;
        }
        subsets.forget();
        tale.drop();
        return tale.length;
    }

    public int worlds(int what) throws NoSuchElementException {
        if (what != 0 && what != 1) {
            throw new NoSuchElementException("0 that keep facts, 1 that fit");
        }
        return realm.howMany(what == 0 ? tale.keeping() : tale.fitting());
    }

    public int world(int i, int what) throws NoSuchElementException {
        int place = realm.pick(tale.fitting(), i);
        if (place == NONE) {
            throw new NoSuchElementException("no such world");
        }
        if (what >= 0 && what < plan.people) {
            return realm.kindAt(place, what);
        }
        if (what >= 8 && what < 8 + plan.people) {
            return realm.codeAt(place, what - 8) == LATE_TURNER ? 1 : 0;
        }
        if (what < 16 || what > 18) {
            throw new NoSuchElementException("nothing such is told of a world");
        }
        return realm.answerAt(place, what - 16 + ROAD);
    }

    public int told(int what) throws NoSuchElementException {
        needAnswer(what);
        return tale.markAnswers(what);
    }

    public int can(int what) throws NoSuchElementException {
        switch (what) {
            case ROAD:
                return realm.meetings(tale.fitting(), ROAD_ROWS, 4);
            case DAY:
                return realm.meetings(tale.fitting(), DAY_ROWS, 7);
            case WORD:
                return realm.meetings(tale.fitting(), WORD_ROWS, 2);
            default:
                throw new NoSuchElementException("1 roads, 2 days, 3 words");
        }
    }

    public int could(int who, int sentence) throws NoSuchElementException {
        if (who != NONE) {
            needPerson(who);
        }
        needSentence(sentence);
        long[] fitting = tale.fitting();
        int number = 0;
        for (int j = 0; j < realm.width; j++) {
            long so = realm.truth(sentences[sentence], j);
            number += Long.bitCount(fitting[j] & (who == NONE ? so : realm.fits(who, NONE, so, j)));
        }
        return number;
    }

    public int needless() {
        return tale.idle();
    }

    public int enough(int what) throws NoSuchElementException {
        needAnswer(what);
        return subsets.leastThatTells(tale, what);
    }

    public int knots() {
        subsets.findKnots(tale);
        return subsets.knotCount;
    }

    public int knot(int i) throws NoSuchElementException {
        subsets.findKnots(tale);
        if (i < 0 || i >= subsets.knotCount) {
            throw new NoSuchElementException("no such knot");
        }
        return subsets.knotAt[i];
    }

    public int question(int who, int sentence) throws NoSuchElementException {
        needPerson(who);
        needSentence(sentence);
        if (questionCount >= MOST_QUESTIONS) {
            return NONE;
        }
        questions[questionCount] = MOST_SENTENCES * who + sentence;
        questionCount++;
        return questionCount - 1;
    }

    public int fewest(int what) throws NoSuchElementException {
        needAnswer(what);
        if (realm.howMany(tale.fitting()) > MOST_ASKED_OF) {
            return TOO_MANY;
        }
        crowd.gather(tale, what);
        return asker.search(questionCount, tale.length);
    }

    public int first() {
        return asker.kept;
    }

    public boolean hide(int i, int seed) {
        int place = realm.pick(tale.fitting(), i);
        if (place == NONE) {
            return false;
        }
        hidden = place;
        this.seed = seed;
        return true;
    }

    public int reply(int question) throws NoSuchElementException {
        if (question < 0 || question >= questionCount) {
            throw new NoSuchElementException("no such question");
        }
        if (hidden == NONE || tale.length >= MOST_EVENTS) {
            return NONE;
        }
        int who = questions[question] / MOST_SENTENCES;
        int sentence = questions[question] % MOST_SENTENCES;
        int word = hiddenWord(who, sentences[sentence]);
        record(who, sentence, word);
        return word;
    }

    private int hiddenWord(int who, Code code) {
        if (realm.kindAt(hidden, who) == FREE) {
            seed = seed * 1103515245 + 12345;
            return (seed >>> 16) & 1;
        }
        int j = hidden >> 6;
        long first = realm.fits(who, 0, realm.truth(code, j), j);
        return ((first >>> (hidden & 63)) & 1L) == 1L ? 0 : 1;
    }

    public int riddle(int what) throws NoSuchElementException {
        needAnswer(what);
        if (tale.length + 2 > MOST_EVENTS) {
            return NONE;
        }
        if (realm.howMany(tale.fitting()) > MOST_RIDDLED) {
            return TOO_MANY;
        }
        crowd.gather(tale, what);
        return riddler.search(sentenceCount, tale.length);
    }

    public int line(int i) throws NoSuchElementException {
        if (i < 0 || i >= riddler.length) {
            throw new NoSuchElementException("no such saying");
        }
        return riddler.lines[i];
    }

    private void needPerson(int who) {
        if (who < 0 || who >= plan.people) {
            throw new NoSuchElementException("no such one");
        }
    }

    private void needSentence(int sentence) {
        if (sentence < 0 || sentence >= sentenceCount) {
            throw new NoSuchElementException("no such sentence");
        }
    }

    private static void needAnswer(int what) {
        if (what < 0 || what >= ANSWER_KINDS) {
            throw new NoSuchElementException("no such answer");
        }
    }

    /** What an ISLAND's text tells, but for its FACTS. */
    private static final class Plan {
        final int[] may = new int[MOST_PEOPLE];
        int people;
        int roads;
        int day;
        int lies;
        boolean liesTold;
        boolean words;

        void reset() {
            Arrays.fill(may, (1 << HONEST) | (1 << LIAR));
            people = 0;
            roads = 1;
            day = NONE;
            lies = 0;
            liesTold = false;
            words = false;
        }

        void copy(Plan other) {
            System.arraycopy(other.may, 0, may, 0, MOST_PEOPLE);
            people = other.people;
            roads = other.roads;
            day = other.day;
            lies = other.lies;
            liesTold = other.liesTold;
            words = other.words;
        }

        int earliestDay() {
            return day == NONE ? 0 : day;
        }

        int latestDay() {
            return day == NONE && liesTold ? 6 : earliestDay();
        }

        int latestWord() {
            return words ? 1 : 0;
        }

        /** How many WORLDS there are ahead of FACTS; at most 15.7 million, so no int wraps. */
        int size() {
            int product = roads * (latestDay() - earliestDay() + 1) * (latestWord() + 1);
            for (int p = 0; p < people; p++) {
                product *= Integer.bitCount(may[p]) + ((may[p] >> TURNER) & 1);
            }
            return product;
        }

        /** The next CODE that one may have behind this one (NONE: the least), or NONE. */
        int codeBehind(int p, int code) {
            for (int next = code + 1; next < CODES; next++) {
                if (((may[p] >> KIND_OF_CODE[next]) & 1) == 1) {
                    return next;
                }
            }
            return NONE;
        }
    }

    /** Goes through all WORLDS of a Plan in their order. */
    private static final class Walk {
        private final int[] code = new int[MOST_PEOPLE];
        private int road;
        private int day;
        private int word;

        void begin(Plan plan) {
            for (int p = 0; p < MOST_PEOPLE; p++) {
                code[p] = p < plan.people ? plan.codeBehind(p, NONE) : 0;
            }
            road = 0;
            day = plan.earliestDay();
            word = 0;
        }

        void step(Plan plan) {
            if (word < plan.latestWord()) {
                word++;
                return;
            }
            word = 0;
            if (day < plan.latestDay()) {
                day++;
                return;
            }
            day = plan.earliestDay();
            if (road + 1 < plan.roads) {
                road++;
                return;
            }
            road = 0;
            stepPeople(plan);
        }

        private void stepPeople(Plan plan) {
            for (int p = plan.people - 1; p >= 0; p--) {
                int next = plan.codeBehind(p, code[p]);
                if (next != NONE) {
                    code[p] = next;
                    return;
                }
                code[p] = plan.codeBehind(p, NONE);
            }
        }

        /** The WORLD as one number: three bits for each CODE, two for the ROAD, three for the DAY, the WORD. */
        int packed() {
            int number = (word << 26) | (day << 23) | (road << 21);
            for (int p = 0; p < MOST_PEOPLE; p++) {
                number |= code[p] << (3 * p);
            }
            return number;
        }

        /** The number of its row of KINDS among all such rows: below the number of WORLDS. */
        int rowOfKinds(Plan plan) {
            int number = 0;
            for (int p = 0; p < plan.people; p++) {
                int ahead = plan.may[p] & ((1 << KIND_OF_CODE[code[p]]) - 1);
                number = number * Integer.bitCount(plan.may[p]) + Integer.bitCount(ahead);
            }
            return number;
        }
    }

    /** An EXPR as steps on a stack. */
    private static final class Code {
        final int[] steps = new int[MOST_STEPS];
        int length = 0;
        int sayers = 0;
        int tolds = 0;

        void clear() {
            length = 0;
            sayers = 0;
            tolds = 0;
        }

        /** No FACT at all is so everywhere. */
        void startFacts() {
            clear();
            add(STEP_ROW, FULL_ROW);
        }

        // A text of 500 bytes has no room for 256 steps.
        void add(int sign, int about) {
            if (length < steps.length) {
                steps[length] = sign | (about << STEP_BITS);
                length++;
            }
        }

        void addSays(int who) {
            add(STEP_SAYS, who);
            sayers |= 1 << who;
        }

        void addTold(int event) {
            boolean ever = event < MOST_TOLD;
            add(STEP_ROW, ever ? TOLD_ROWS + event : EMPTY_ROW);
            if (ever) {
                tolds |= 1 << event;
            }
        }

        boolean hangsOn(int who, int event) {
            return ((sayers >> who) & 1) == 1 || ((tolds >> event) & 1) == 1;
        }
    }

    /** The TOKENS of a text, one at a time. */
    private static final class Tokens {
        static final int END = 0;
        static final int A_WORD = 1;
        static final int A_NUMBER = 2;
        static final int A_SIGN = 3;
        static final int NO_TOKEN = 4;

        private final byte[] text;
        private int size = 0;
        private int end = 0;
        int start = 0;
        int type = END;

        Tokens(byte[] text) {
            this.text = text;
        }

        void begin(int n) {
            size = Math.min(n, text.length);
            end = 0;
            next();
        }

        void next() {
            start = end;
            while (start < size && (text[start] == ' ' || text[start] == '\n')) {
                start++;
            }
            if (start >= size) {
                type = END;
                end = start;
                return;
            }
            type = typeOf(text[start]);
            end = start + 1;
            boolean longer = type == A_WORD || type == A_NUMBER;
            while (longer && end < size && typeOf(text[end]) == type) {
                end++;
            }
        }

        private static int typeOf(int sign) {
            if (sign >= 'a' && sign <= 'z') {
                return A_WORD;
            }
            if (sign >= '0' && sign <= '9') {
                return A_NUMBER;
            }
            boolean known = sign == ';' || sign == '(' || sign == ')' || sign == '<' || sign == '=' || sign == '>';
            return known ? A_SIGN : NO_TOKEN;
        }

        boolean isSign(char sign) {
            return type == A_SIGN && start < size && text[start] == sign;
        }

        boolean isWord(String word) {
            if (type != A_WORD || end - start != word.length()) {
                return false;
            }
            for (int i = 0; i < word.length(); i++) {
                if (text[start + i] != word.charAt(i)) {
                    return false;
                }
            }
            return true;
        }

        boolean isName() {
            return type == A_WORD && end - start == 1;
        }

        /** Whose NAME it is, if it is a NAME. */
        int person() {
            return text[start] - 'a';
        }

        /** The NUMBER, or NONE if it has too many digits. */
        int value() {
            if (end - start > 3) {
                return NONE;
            }
            int number = 0;
            for (int i = start; i < end; i++) {
                number = 10 * number + (text[i] - '0');
            }
            return number;
        }

        int kind() {
            if (isWord("honest")) {
                return HONEST;
            }
            if (isWord("liar")) {
                return LIAR;
            }
            if (isWord("turner")) {
                return TURNER;
            }
            if (isWord("dayer")) {
                return DAYER;
            }
            return isWord("free") ? FREE : NONE;
        }
    }

    /** Reads a text down to its first FAULT: what reads a part answers false, or NONE, behind one. */
    private static final class Parser {
        private static final int UNFIT = 1;
        private static final int TOO_MUCH = 2;
        private static final int NO_KIND = 3;
        private static final int NOBODY = 4;
        private static final int TWICE = 5;
        private static final int WORLDS = 6;
        private static final int DEEPEST = 6;
        private static final int MOST_NOTS = 6;

        private final Tokens tokens;
        final Plan draft = new Plan();
        private Code code;
        private int people = 0;
        private int found = 0;
        int place = NONE;

        Parser(byte[] text, Code scratch) {
            tokens = new Tokens(text);
            code = scratch;
        }

        int readIsland(int n, Code facts) {
            begin(n, facts);
            draft.reset();
            facts.startFacts();
            boolean read = head();
            for (int i = 0; i < MOST_BYTES && read && tokens.type != Tokens.END; i++) {
                read = clause() && takeSign(';');
            }
            if (read && draft.size() > MOST_WORLDS) {
                fail(WORLDS);
            }
            return found;
        }

        int readSentence(int n, int ofPeople, Code into) {
            begin(n, into);
            into.clear();
            people = ofPeople;
            if (expr(0) && takeSign(';') && tokens.type != Tokens.END) {
                fail(UNFIT);
            }
            return found;
        }

        private void begin(int n, Code into) {
            code = into;
            found = 0;
            place = NONE;
            tokens.begin(n);
        }

        private boolean fail(int fault) {
            found = fault;
            place = tokens.start;
            return false;
        }

        private boolean head() {
            if (!takeWord("people")) {
                return fail(UNFIT);
            }
            people = number(0, MOST_PEOPLE);
            draft.people = people;
            return people != NONE && takeSign(';');
        }

        private boolean clause() {
            if (takeWord("may")) {
                return mayClause();
            }
            if (takeWord("lies")) {
                return liesClause();
            }
            if (takeWord("fact")) {
                return expr(0) && step(STEP_AND, 0);
            }
            if (takeWord("words")) {
                draft.words = true;
                return true;
            }
            if (takeWord("roads")) {
                draft.roads = number(1, 4);
                return draft.roads != NONE;
            }
            if (takeWord("day")) {
                draft.day = number(0, 6);
                return draft.day != NONE;
            }
            return fail(UNFIT);
        }

        private boolean mayClause() {
            int who = name();
            int earliest = who == NONE ? NONE : takeKind();
            if (earliest == NONE) {
                return false;
            }
            int told = 1 << earliest;
            for (int i = 0; i < KINDS && tokens.kind() != NONE; i++) {
                int bit = 1 << tokens.kind();
                if ((told & bit) != 0) {
                    return fail(TWICE);
                }
                told |= bit;
                tokens.next();
            }
            draft.may[who] = told;
            return true;
        }

        private boolean liesClause() {
            int days = 0;
            for (int i = 0; i < MOST_BYTES && (i == 0 || tokens.type == Tokens.A_NUMBER); i++) {
                int day = number(0, 6);
                if (day == NONE) {
                    return false;
                }
                days |= 1 << day;
            }
            draft.lies = days;
            draft.liesTold = true;
            return true;
        }

        private boolean expr(int within) {
            if (!canBegin()) {
                return fail(UNFIT);
            }
            if (within >= DEEPEST) {
                return fail(TOO_MUCH);
            }
            if (!conjunction(within)) {
                return false;
            }
            for (int i = 0; i < MOST_BYTES && takeWord("or"); i++) {
                if (!conjunction(within) || !step(STEP_OR, 0)) {
                    return false;
                }
            }
            return true;
        }

        private boolean canBegin() {
            return tokens.isSign('(') || tokens.isName() || tokens.isWord("not") || tokens.isWord("road")
                    || tokens.isWord("day") || tokens.isWord("many") || tokens.isWord("word") || tokens.isWord("told");
        }

        private boolean conjunction(int within) {
            if (!negation(within)) {
                return false;
            }
            for (int i = 0; i < MOST_BYTES && takeWord("and"); i++) {
                if (!negation(within) || !step(STEP_AND, 0)) {
                    return false;
                }
            }
            return true;
        }

        private boolean negation(int within) {
            int nots = 0;
            while (nots < MOST_NOTS && takeWord("not")) {
                nots++;
            }
            if (tokens.isWord("not")) {
                return fail(TOO_MUCH);
            }
            boolean read = tokens.isSign('(') ? parenthesis(within) : atom(within);
            return read && ((nots & 1) == 0 || step(STEP_NOT, 0));
        }

        private boolean parenthesis(int within) {
            return takeSign('(') && expr(within + 1) && takeSign(')');
        }

        private boolean atom(int within) {
            if (tokens.isName()) {
                return aboutSomeone(within);
            }
            if (takeWord("road")) {
                return row(ROAD_ROWS, number(0, 3));
            }
            if (takeWord("day")) {
                return row(DAY_ROWS, number(0, 6));
            }
            if (takeWord("word")) {
                return row(WORD_ROWS, number(0, 1));
            }
            if (takeWord("told")) {
                return toldAtom();
            }
            return takeWord("many") ? manyAtom(takeKind()) : fail(UNFIT);
        }

        private boolean row(int rows, int number) {
            return number != NONE && step(STEP_ROW, rows + number);
        }

        private boolean toldAtom() {
            int event = number(0, 99);
            if (event == NONE) {
                return false;
            }
            code.addTold(event);
            return true;
        }

        private boolean manyAtom(int kind) {
            if (kind == NONE) {
                return false;
            }
            int order = tokens.isSign('<') ? -1 : tokens.isSign('>') ? 1 : 0;
            if (order == 0 && !tokens.isSign('=')) {
                return fail(UNFIT);
            }
            tokens.next();
            int number = number(0, 99);
            if (number == NONE) {
                return false;
            }
            int below = Math.min(number, MOST_PEOPLE + 1);
            int counts = order < 0 ? (1 << below) - 1 : order > 0 ? -1 << (below + 1) : 1 << below;
            return step(STEP_MANY, (kind << 8) | (counts & 0xff));
        }

        private boolean aboutSomeone(int within) {
            int who = name();
            if (who == NONE) {
                return false;
            }
            if (takeWord("is")) {
                return row(KIND_ROWS + who * KINDS, takeKind());
            }
            if (takeWord("as")) {
                int other = name();
                return other != NONE && step(STEP_AS, (who << 3) | other);
            }
            if (!takeWord("says")) {
                return fail(UNFIT);
            }
            if (!parenthesis(within)) {
                return false;
            }
            code.addSays(who);
            return true;
        }

        private int name() {
            if (!tokens.isName()) {
                fail(UNFIT);
                return NONE;
            }
            int who = tokens.person();
            if (who < 0 || who >= people) {
                fail(NOBODY);
                return NONE;
            }
            tokens.next();
            return who;
        }

        private int takeKind() {
            int kind = tokens.kind();
            if (kind == NONE) {
                fail(tokens.type == Tokens.A_WORD ? NO_KIND : UNFIT);
                return NONE;
            }
            tokens.next();
            return kind;
        }

        private int number(int least, int most) {
            if (tokens.type != Tokens.A_NUMBER) {
                fail(UNFIT);
                return NONE;
            }
            int value = tokens.value();
            if (value < least || value > most) {
                fail(TOO_MUCH);
                return NONE;
            }
            tokens.next();
            return value;
        }

        private boolean step(int sign, int about) {
            code.add(sign, about);
            return true;
        }

        private boolean takeWord(String word) {
            if (!tokens.isWord(word)) {
                return false;
            }
            tokens.next();
            return true;
        }

        private boolean takeSign(char sign) {
            if (!tokens.isSign(sign)) {
                return fail(UNFIT);
            }
            tokens.next();
            return true;
        }
    }

    /** WORLDS side by side: of each plain thing that an EXPR tells a row with a bit for each WORLD. */
    private static final class Realm {
        private static final int STACK = 32;

        final long[][] rows;
        private final int[] packed;
        private final int[] rowOfKinds;
        final int[] turn = new int[MOST_PEOPLE];
        private final long[] stack = new long[STACK];
        private final int[] tally = new int[KINDS];
        private final Walk walk = new Walk();
        int people = 0;
        private int lies = 0;
        int size = 0;
        int width = 0;

        Realm(int most) {
            rows = new long[ROWS][(most + 63) >> 6];
            packed = new int[most];
            rowOfKinds = new int[most];
        }

        /** All WORLDS of a Plan, ahead of its FACTS. */
        void settle(Plan plan) {
            clear(plan.people, plan.lies);
            walk.begin(plan);
            int total = Math.min(plan.size(), packed.length);
            for (int i = 0; i < total; i++) {
                place(walk.packed(), walk.rowOfKinds(plan));
                walk.step(plan);
            }
        }

        /** Those of another's WORLDS that a row picks, with as many EVENTS having been. */
        void take(Realm other, long[] picked, int events) {
            clear(other.people, other.lies);
            System.arraycopy(other.turn, 0, turn, 0, MOST_PEOPLE);
            for (int i = 0; i < other.size && size < packed.length; i++) {
                if (holds(picked, i)) {
                    for (int e = 0; e < events; e++) {
                        if (holds(other.rows[TOLD_ROWS + e], i)) {
                            set(TOLD_ROWS + e, size);
                        }
                    }
                    place(other.packed[i], other.rowOfKinds[i]);
                }
            }
        }

        private void clear(int ofPeople, int daysOfLies) {
            people = ofPeople;
            lies = daysOfLies;
            size = 0;
            width = 0;
            for (int r = 0; r < ROWS; r++) {
                Arrays.fill(rows[r], 0L);
            }
            Arrays.fill(turn, 0);
        }

        private void place(int world, int kinds) {
            int i = size;
            packed[i] = world;
            rowOfKinds[i] = kinds;
            size++;
            width = (size + 63) >> 6;
            Arrays.fill(tally, 0);
            for (int p = 0; p < people; p++) {
                placePerson(i, p);
            }
            for (int k = 0; k < KINDS; k++) {
                set(MANY_ROWS + k * (MOST_PEOPLE + 1) + tally[k], i);
            }
            set(ROAD_ROWS + answerAt(i, ROAD), i);
            set(DAY_ROWS + answerAt(i, DAY), i);
            set(WORD_ROWS + answerAt(i, WORD), i);
            set(FULL_ROW, i);
        }

        private void placePerson(int i, int p) {
            int kind = kindAt(i, p);
            tally[kind]++;
            set(KIND_ROWS + p * KINDS + kind, i);
            for (int t = 0; t < 2; t++) {
                if (honestAt(i, p, t)) {
                    set(HONEST_ROWS + 2 * p + t, i);
                }
            }
        }

        private boolean honestAt(int i, int p, int turnOf) {
            switch (kindAt(i, p)) {
                case HONEST:
                    return true;
                case TURNER:
                    return (codeAt(i, p) == LATE_TURNER) == (turnOf == 1);
                case DAYER:
                    return ((lies >> answerAt(i, DAY)) & 1) == 0;
                default:
                    return false;
            }
        }

        private void set(int row, int i) {
            rows[row][i >> 6] |= 1L << (i & 63);
        }

        static boolean holds(long[] row, int i) {
            return ((row[i >> 6] >>> (i & 63)) & 1L) == 1L;
        }

        int codeAt(int i, int p) {
            return (packed[i] >> (3 * p)) & 7;
        }

        int kindAt(int i, int p) {
            int code = codeAt(i, p);
            return code < CODES ? KIND_OF_CODE[code] : FREE;
        }

        int answerAt(int i, int what) {
            switch (what) {
                case ROAD:
                    return (packed[i] >> 21) & 3;
                case DAY:
                    return (packed[i] >> 23) & 7;
                case WORD:
                    return (packed[i] >> 26) & 1;
                default:
                    return rowOfKinds[i];
            }
        }

        /** In which of 64 WORLDS an EXPR is so, as the turns and what was told stand now. */
        long truth(Code code, int j) {
            int top = 0;
            for (int i = 0; i < code.length && top + 1 < STACK; i++) {
                int about = code.steps[i] >> STEP_BITS;
                int sign = code.steps[i] & ((1 << STEP_BITS) - 1);
                boolean joins = sign == STEP_AND || sign == STEP_OR;
                if (sign == STEP_ROW || sign == STEP_AS || sign == STEP_MANY) {
                    stack[top] = sign == STEP_ROW ? rows[about][j] : sign == STEP_AS ? alike(about, j) : many(about, j);
                    top++;
                } else if (joins && top > 1) {
                    top--;
                    long last = stack[top];
                    stack[top - 1] = sign == STEP_AND ? stack[top - 1] & last : stack[top - 1] | last;
                } else if (!joins && top > 0) {
                    long last = stack[top - 1];
                    stack[top - 1] = sign == STEP_NOT ? ~last : fits(about, NONE, last, j);
                }
            }
            return stack[0];
        }

        private long alike(int pair, int j) {
            int one = KIND_ROWS + (pair >> 3) * KINDS;
            int other = KIND_ROWS + (pair & 7) * KINDS;
            long so = 0L;
            for (int k = 0; k < KINDS; k++) {
                so |= rows[one + k][j] & rows[other + k][j];
            }
            return so;
        }

        private long many(int about, int j) {
            int from = MANY_ROWS + (about >> 8) * (MOST_PEOPLE + 1);
            long so = 0L;
            for (int c = 0; c <= MOST_PEOPLE; c++) {
                if (((about >> c) & 1) == 1) {
                    so |= rows[from + c][j];
                }
            }
            return so;
        }

        void judge(Code code, long[] into) {
            for (int j = 0; j < width; j++) {
                into[j] = truth(code, j);
            }
        }

        /** Where one could say now what is so there, or answer by the word whether it is. */
        long fits(int who, int word, long so, int j) {
            return freeRow(who)[j] | (yesRow(word)[j] ^ so ^ honestRow(who)[j]);
        }

        long[] freeRow(int who) {
            return rows[KIND_ROWS + who * KINDS + FREE];
        }

        /** Where one is HONEST at its next EVENT, if it isn't FREE. */
        long[] honestRow(int who) {
            return rows[HONEST_ROWS + 2 * who + turn[who]];
        }

        /** Where the WORD is yes; to say something is to say yes to it. */
        long[] yesRow(int word) {
            return rows[word == NONE ? FULL_ROW : WORD_ROWS + word];
        }

        void pass(int who) {
            turn[who] ^= 1;
        }

        int howMany(long[] row) {
            int number = 0;
            for (int j = 0; j < width; j++) {
                number += Long.bitCount(row[j]);
            }
            return number;
        }

        /** The i-th WORLD of a row, or NONE. */
        int pick(long[] row, int i) {
            if (i < 0) {
                return NONE;
            }
            int ahead = 0;
            for (int w = 0; w < size; w++) {
                if (holds(row, w)) {
                    if (ahead == i) {
                        return w;
                    }
                    ahead++;
                }
            }
            return NONE;
        }

        /** Which of some rows, one behind another, have a WORLD with this one, as bits. */
        int meetings(long[] row, int from, int number) {
            int bits = 0;
            for (int r = 0; r < number; r++) {
                for (int j = 0; j < width; j++) {
                    if ((row[j] & rows[from + r][j]) != 0L) {
                        bits |= 1 << r;
                    }
                }
            }
            return bits;
        }
    }

    /** The EVENTS, and which WORLDS FIT each and all up to each. */
    private static final class Tale {
        final Realm realm;
        private final int[] whose = new int[MOST_EVENTS];
        private final long[][] fit;
        private final long[][] left;
        private final byte[] marks = new byte[MOST_WORLDS];
        int length = 0;

        Tale(Realm realm) {
            this.realm = realm;
            fit = new long[MOST_EVENTS][(MOST_WORLDS + 63) >> 6];
            left = new long[MOST_EVENTS + 1][(MOST_WORLDS + 63) >> 6];
        }

        void begin(Code facts) {
            length = 0;
            realm.judge(facts, left[0]);
        }

        long[] keeping() {
            return left[0];
        }

        long[] fitting() {
            return left[length];
        }

        int add(int who, Code code, int word) {
            int event = length;
            if (event >= MOST_EVENTS) {
                return NONE;
            }
            long[] so = realm.rows[TOLD_ROWS + event];
            realm.judge(code, so);
            for (int j = 0; j < realm.width; j++) {
                fit[event][j] = realm.fits(who, word, so[j], j);
                left[event + 1][j] = left[event][j] & fit[event][j];
            }
            whose[event] = who;
            realm.pass(who);
            length++;
            return event;
        }

        void drop() {
            if (length > 0) {
                length--;
                Arrays.fill(realm.rows[TOLD_ROWS + length], 0L);
                realm.pass(whose[length]);
            }
        }

        /** How many ANSWERS the WORLDS that FIT tell; they are marked. */
        int markAnswers(int what) {
            Arrays.fill(marks, (byte) 0);
            int number = 0;
            for (int i = 0; i < realm.size; i++) {
                if (Realm.holds(left[length], i) && !isMarked(i, what)) {
                    marks[realm.answerAt(i, what)] = 1;
                    number++;
                }
            }
            return number;
        }

        /** Whether a WORLD tells an ANSWER that was marked. */
        boolean isMarked(int i, int what) {
            return marks[realm.answerAt(i, what)] == 1;
        }

        /** NEEDLESS EVENTS, as bits. */
        int idle() {
            int bits = 0;
            for (int e = 0; e < length; e++) {
                if (!bars(e)) {
                    bits |= 1 << e;
                }
            }
            return bits;
        }

        /** Whether some WORLD would FIT, if this EVENT alone were LEFT OUT, that doesn't FIT. */
        private boolean bars(int event) {
            for (int j = 0; j < realm.width; j++) {
                long rest = left[0][j] & ~fit[event][j];
                for (int e = 0; e < length; e++) {
                    if (e != event) {
                        rest &= fit[e][j];
                    }
                }
                if (rest != 0L) {
                    return true;
                }
            }
            return false;
        }

        /** The EVENTS that a WORLD FITS, the first as the highest bit. */
        int fitOf(int i) {
            int bits = 0;
            for (int e = 0; e < length; e++) {
                bits = 2 * bits + (Realm.holds(fit[e], i) ? 1 : 0);
            }
            return bits;
        }
    }

    /**
     * Sets of EVENTS, as numbers whose highest bit is EVENT 0: of two such sets
     * the greater number has the least EVENT that not both have, so it is the first.
     */
    private static final class Subsets {
        private static final int MOST_SETS = 1 << MOST_EVENTS;
        private static final int MOST_KNOTS = 924;

        private final byte[] fitted = new byte[MOST_SETS];
        private final int[] unsorted = new int[MOST_KNOTS];
        final int[] knotAt = new int[MOST_KNOTS];
        int knotCount = 0;
        private boolean known = false;

        void forget() {
            known = false;
        }

        /** ENOUGH for an ANSWER, as bits: what bars every WORLD of an ANSWER that is none. */
        int leastThatTells(Tale tale, int what) {
            Realm realm = tale.realm;
            tale.markAnswers(what);
            clear(tale.length);
            for (int i = 0; i < realm.size; i++) {
                if (Realm.holds(tale.keeping(), i) && !tale.isMarked(i, what)) {
                    fitted[tale.fitOf(i)] = 1;
                }
            }
            spread(tale.length);
            int best = (1 << tale.length) - 1;
            for (int set = best; set >= 0; set--) {
                if (fitted[set] == 0 && Integer.bitCount(set) < Integer.bitCount(best)) {
                    best = set;
                }
            }
            return turned(best, tale.length);
        }

        void findKnots(Tale tale) {
            if (known) {
                return;
            }
            clear(tale.length);
            for (int i = 0; i < tale.realm.size; i++) {
                if (Realm.holds(tale.keeping(), i)) {
                    fitted[tale.fitOf(i)] = 1;
                }
            }
            spread(tale.length);
            gatherKnots(tale.length);
            known = true;
        }

        private void clear(int length) {
            for (int set = 0; set < 1 << length; set++) {
                fitted[set] = 0;
            }
        }

        /** What FITS all EVENTS of a set FITS all of each set within it. */
        private void spread(int length) {
            for (int e = 0; e < length; e++) {
                for (int set = 0; set < 1 << length; set++) {
                    if (((set >> e) & 1) == 1 && fitted[set] == 1) {
                        fitted[set ^ (1 << e)] = 1;
                    }
                }
            }
        }

        private void gatherKnots(int length) {
            int number = 0;
            for (int set = (1 << length) - 1; set >= 0 && number < MOST_KNOTS; set--) {
                if (isKnot(set, length)) {
                    unsorted[number] = set;
                    number++;
                }
            }
            knotCount = 0;
            for (int many = 0; many <= length; many++) {
                for (int i = 0; i < number; i++) {
                    if (Integer.bitCount(unsorted[i]) == many) {
                        knotAt[knotCount] = turned(unsorted[i], length);
                        knotCount++;
                    }
                }
            }
        }

        private boolean isKnot(int set, int length) {
            if (fitted[set] == 1) {
                return false;
            }
            for (int e = 0; e < length; e++) {
                if (((set >> e) & 1) == 1 && fitted[set ^ (1 << e)] == 0) {
                    return false;
                }
            }
            return true;
        }

        /** The set as bits, EVENT 0 as the lowest. */
        private static int turned(int set, int length) {
            int bits = 0;
            for (int e = 0; e < length; e++) {
                bits = 2 * bits + ((set >> e) & 1);
            }
            return bits;
        }
    }

    /** The WORLDS that FIT, gathered closely for a search, with the ANSWER that each tells. */
    private static final class Crowd {
        final Realm realm;
        final int width;
        private final int[] likeWhom;
        private final long[][] alike;
        private final int[] earliest = new int[MOST_WORLDS];
        private final long[] rest;

        Crowd(int most) {
            realm = new Realm(most);
            width = (most + 63) >> 6;
            likeWhom = new int[most];
            alike = new long[most][width];
            rest = new long[width];
        }

        void gather(Tale tale, int what) {
            realm.take(tale.realm, tale.fitting(), tale.length);
            Arrays.fill(earliest, NONE);
            for (int i = 0; i < realm.size; i++) {
                int answer = realm.answerAt(i, what);
                if (earliest[answer] == NONE) {
                    earliest[answer] = i;
                    Arrays.fill(alike[i], 0L);
                }
                likeWhom[i] = earliest[answer];
                alike[likeWhom[i]][i >> 6] |= 1L << (i & 63);
            }
        }

        long[] everyone() {
            return realm.rows[FULL_ROW];
        }

        /** Whether a row's WORLDS tell at most so many ANSWERS. */
        boolean tellsAtMost(long[] row, int most) {
            System.arraycopy(row, 0, rest, 0, width);
            for (int n = 0; n < most; n++) {
                int i = someOf(rest);
                if (i == NONE) {
                    return true;
                }
                long[] same = alike[likeWhom[i]];
                for (int j = 0; j < realm.width; j++) {
                    rest[j] &= ~same[j];
                }
            }
            return someOf(rest) == NONE;
        }

        /** Whether a row has some WORLD and tells just one ANSWER. */
        boolean tellsOne(long[] row) {
            int i = someOf(row);
            if (i == NONE) {
                return false;
            }
            long[] same = alike[likeWhom[i]];
            for (int j = 0; j < realm.width; j++) {
                if ((row[j] & ~same[j]) != 0L) {
                    return false;
                }
            }
            return true;
        }

        /** The first WORLD of a row, or NONE. */
        int someOf(long[] row) {
            for (int j = 0; j < realm.width; j++) {
                if (row[j] != 0L) {
                    return 64 * j + Long.bitCount(~row[j] & (row[j] - 1L));
                }
            }
            return NONE;
        }

        /** Those of a row in which one could now say what is so there, or answer by the word. */
        void narrow(long[] row, int who, int word, long[] so, long[] into) {
            long[] free = realm.freeRow(who);
            long[] honest = realm.honestRow(who);
            long[] yes = realm.yesRow(word);
            for (int j = 0; j < realm.width; j++) {
                into[j] = row[j] & (free[j] | (yes[j] ^ so[j] ^ honest[j]));
            }
        }
    }

    /** Looks for the FEWEST QUESTIONS, and keeps FIRST. */
    private static final class Asker {
        private final Crowd crowd;
        private final Code[] codes;
        private final int[] questions;
        private final long[][] sets;
        private int number = 0;
        private int event = 0;
        int kept = NONE;

        Asker(Crowd crowd, Code[] sentences, int[] questions) {
            this.crowd = crowd;
            this.questions = questions;
            codes = sentences;
            sets = new long[MOST_ASKED + 1][crowd.width];
        }

        /** How many are needed, or NONE. */
        int search(int known, int events) {
            number = known;
            event = events;
            System.arraycopy(crowd.everyone(), 0, sets[0], 0, crowd.width);
            if (crowd.tellsAtMost(sets[0], 1)) {
                kept = NONE;
                return 0;
            }
            for (int needed = 1; needed <= MOST_ASKED; needed++) {
                int opening = opener(0, needed);
                if (opening != NONE) {
                    kept = opening;
                    return needed;
                }
            }
            return NONE;
        }

        /** The least QUESTION that, so many having been asked, so many left, tells the ANSWER at last; or NONE. */
        private int opener(int asked, int leftOver) {
            // Each WORD heard parts the ANSWERS in two at best.
            if (leftOver <= 0 || asked >= MOST_ASKED || !crowd.tellsAtMost(sets[asked], 1 << leftOver)) {
                return NONE;
            }
            for (int q = 0; q < number; q++) {
                if (opens(q, asked, leftOver)) {
                    return q;
                }
            }
            return NONE;
        }

        private boolean opens(int q, int asked, int leftOver) {
            Realm realm = crowd.realm;
            int who = questions[q] / MOST_SENTENCES;
            long[] so = realm.rows[TOLD_ROWS + event + asked];
            realm.judge(codes[questions[q] % MOST_SENTENCES], so);
            boolean tells = true;
            for (int word = 0; word < 2 && tells; word++) {
                crowd.narrow(sets[asked], who, word, so, sets[asked + 1]);
                if (!crowd.tellsAtMost(sets[asked + 1], 1)) {
                    realm.pass(who);
                    tells = opener(asked + 1, leftOver - 1) != NONE;
                    realm.pass(who);
                }
            }
            Arrays.fill(so, 0L);
            return tells;
        }
    }

    /** Looks for the first RIDDLE of fewest SAYINGS, and keeps it. */
    private static final class Riddler {
        private final Crowd crowd;
        private final Code[] codes;
        private final long[][] plain;
        private final long[][] later;
        private final long[] one;
        private final long[] both;
        private int number = 0;
        private int event = 0;
        final int[] lines = new int[2];
        int length = 0;

        Riddler(Crowd crowd, Code[] sentences) {
            this.crowd = crowd;
            codes = sentences;
            plain = new long[MOST_SENTENCES][crowd.width];
            later = new long[MOST_SENTENCES][crowd.width];
            one = new long[crowd.width];
            both = new long[crowd.width];
        }

        /** How many SAYINGS are needed, or NONE. */
        int search(int known, int events) {
            number = known;
            event = events;
            for (int s = 0; s < number; s++) {
                crowd.realm.judge(codes[s], plain[s]);
            }
            if (tellsAlone()) {
                return length;
            }
            for (int p = 0; p < crowd.realm.people; p++) {
                for (int s = 0; s < number; s++) {
                    crowd.narrow(crowd.everyone(), p, NONE, plain[s], one);
                    int second = crowd.someOf(one) == NONE ? NONE : secondBehind(p, s);
                    if (second != NONE) {
                        lines[0] = MOST_SENTENCES * p + s;
                        lines[1] = second;
                        length = 2;
                        return length;
                    }
                }
            }
            return NONE;
        }

        private boolean tellsAlone() {
            for (int p = 0; p < crowd.realm.people; p++) {
                for (int s = 0; s < number; s++) {
                    crowd.narrow(crowd.everyone(), p, NONE, plain[s], one);
                    if (crowd.tellsOne(one)) {
                        lines[0] = MOST_SENTENCES * p + s;
                        length = 1;
                        return true;
                    }
                }
            }
            return false;
        }

        /** The least SAYING that tells the ANSWER behind this one, that one's WORLDS standing ready; or NONE. */
        private int secondBehind(int p, int s) {
            Realm realm = crowd.realm;
            long[] so = realm.rows[TOLD_ROWS + event];
            System.arraycopy(plain[s], 0, so, 0, crowd.width);
            realm.pass(p);
            judgeAgain(p);
            int second = leastFrom(p, s);
            realm.pass(p);
            Arrays.fill(so, 0L);
            return second;
        }

        private void judgeAgain(int p) {
            for (int t = 0; t < number; t++) {
                if (codes[t].hangsOn(p, event)) {
                    crowd.realm.judge(codes[t], later[t]);
                } else {
                    System.arraycopy(plain[t], 0, later[t], 0, crowd.width);
                }
            }
        }

        private int leastFrom(int p, int s) {
            for (int q = p; q < crowd.realm.people; q++) {
                for (int t = q == p ? s : 0; t < number; t++) {
                    crowd.narrow(one, q, NONE, later[t], both);
                    if (crowd.tellsOne(both)) {
                        return MOST_SENTENCES * q + t;
                    }
                }
            }
            return NONE;
        }
    }
}
