/** Each sentence of "Terms" and of promises 1 to 7 that names an edge: the last case allowed, the first that isn't. */
public final class TextEdgesTest {
    private static final Check CHECK = new Check();
    private static final String[] KINDS = {"honest", "liar", "turner", "dayer", "free"};
    private static final String ALL_KINDS = " honest liar turner dayer free;";

    public static void main(String[] args) {
        people();
        names();
        roads();
        daysOfTheClauses();
        wordsOfTheClause();
        numbersOfSentences();
        digits();
        fiveHundredBytes();
        tokensTakeTheLongestRow();
        blanks();
        bytesThatAreNoTokens();
        anyNumberOfTimes();
        orderOfSigns();
        manyOfEachKind();
        mayOfNobodyTold();
        lastMayCounts();
        lastRoadsCount();
        lastDayCounts();
        lastLiesCount();
        withoutRoads();
        dayWithAndWithoutLies();
        daysOfLies();
        words();
        facts();
        threeThousandWorlds();
        worldsAreCountedAheadOfFacts();
        thirtySentences();
        firstAlongTheText();
        firstByteOfTheToken();
        leastOfOneToken();
        tokensThatCannotStand();
        textsThatEndTooSoon();
        expressionsWithinOthers();
        notsSideBySide();
        wordsThatAreNoKinds();
        namesOfNobody();
        kindsToldTwice();
        newObject();
        feedTakesTheHighestByteFirst();
        feedStopsAtFiveHundred();
        islandTakesTheFirstBytes();
        tapeIsEmptyBehindAnIsland();
        tapeIsEmptyBehindASentence();
        allStaysBehindAFaultyIsland();
        allStaysBehindAFaultySentence();
        goneBehindAnIsland();
        eachIslandIsToldAnew();
        illegalLengths();
        illegalLengthsChangeNothing();
        sentencesOfThePeopleThereAre();
        thirtyGoAheadOfAFault();
        latestFault();
        count();
        mayByTextAndByWorlds();
        mayOfNobody();
        CHECK.end();
    }

    private static void island(String text, int answer, int place) {
        IslandHall x = new IslandHall();
        CHECK.due(text, () -> Check.island(x, text), answer);
        CHECK.due("fault of " + text, x::fault, place);
    }

    private static void sentence(String text, int answer, int place) {
        IslandHall x = Check.hall("people 2;");
        CHECK.due(text, () -> Check.sentence(x, text), answer);
        CHECK.due("fault of " + text, x::fault, place);
    }

    private static void worlds(String text, int due) {
        IslandHall x = new IslandHall();
        CHECK.due(text, () -> Check.island(x, text), 0);
        CHECK.due("worlds of " + text, () -> x.worlds(0), due);
    }

    // ---- Terms ----

    /** "PEOPLE 0 to n - 1 (at most 7)", "PEOPLE 0 to 7". */
    private static void people() {
        worlds("people 0;", 1);
        worlds("people 1;", 2);
        worlds("people 7;", 128);
        island("people 8;", 2, 7);
        island("people 10;", 2, 7);
        island("people 999;", 2, 7);
    }

    /** "named by the letters a to g". */
    private static void names() {
        island("people 7;fact a is liar;", 0, -1);
        island("people 7;fact g is liar;", 0, -1);
        island("people 7;fact h is liar;", 4, 14);
        island("people 7;may g liar;", 0, -1);
        island("people 7;may h liar;", 4, 13);
        IslandHall x = Check.hall("people 7;fact many liar=1;fact g is liar;");
        CHECK.due("g is the last", () -> x.world(0, 6), 1);
        CHECK.due("a is the first", () -> x.world(0, 0), 0);
    }

    /** "ROADS 0 to r - 1 (1 to 4)", "'roads' 1 to 4". */
    private static void roads() {
        island("people 0;roads 0;", 2, 15);
        worlds("people 0;roads 1;", 1);
        worlds("people 0;roads 4;", 4);
        island("people 0;roads 5;", 2, 15);
        IslandHall x = Check.hall("people 0;roads 4;");
        CHECK.due("the first road", () -> x.world(0, 16), 0);
        CHECK.due("the last road", () -> x.world(3, 16), 3);
    }

    /** "DAYS 0 to 6", of 'day' and of every NUMBER behind 'lies'. */
    private static void daysOfTheClauses() {
        island("people 0;day 0;", 0, -1);
        island("people 0;day 6;", 0, -1);
        island("people 0;day 7;", 2, 13);
        island("people 0;lies 0;", 0, -1);
        island("people 0;lies 6;", 0, -1);
        island("people 0;lies 7;", 2, 14);
        island("people 0;lies 0 1 2 3 4 5 6;", 0, -1);
        island("people 0;lies 0 1 2 3 4 5 6 7;", 2, 28);
        IslandHall x = Check.hall("people 0;lies 6;");
        CHECK.due("the first day", () -> x.world(0, 17), 0);
        CHECK.due("the last day", () -> x.world(6, 17), 6);
        CHECK.throwsNoSuch("no eighth", () -> x.world(7, 17));
    }

    /** "WORDS 0 and 1". */
    private static void wordsOfTheClause() {
        IslandHall x = Check.hall("people 0;words;");
        CHECK.due("word 0 is yes", () -> x.world(0, 18), 0);
        CHECK.due("word 1 is yes", () -> x.world(1, 18), 1);
        CHECK.throwsNoSuch("no third", () -> x.world(2, 18));
    }

    /** "'road' 0 to 3, 'word' 0, 1, other NUMBERS 0 to 99", "DAYS 0 to 6". */
    private static void numbersOfSentences() {
        sentence("road 0;", 0, -1);
        sentence("road 3;", 0, -1);
        sentence("road 4;", -3, 5);
        sentence("day 0;", 0, -1);
        sentence("day 6;", 0, -1);
        sentence("day 7;", -3, 4);
        sentence("word 0;", 0, -1);
        sentence("word 1;", 0, -1);
        sentence("word 2;", -3, 5);
        sentence("told 0;", 0, -1);
        sentence("told 99;", 0, -1);
        sentence("told 100;", -3, 5);
        for (String sign : new String[] {"<", "=", ">"}) {
            sentence("many liar" + sign + "0;", 0, -1);
            sentence("many liar" + sign + "99;", 0, -1);
            sentence("many liar" + sign + "100;", -3, 10);
        }
    }

    /** "NUMBERS (1 to 3 digits)", "a NUMBER of 4 digits or more". */
    private static void digits() {
        island("people 7;", 0, -1);
        island("people 07;", 0, -1);
        island("people 007;", 0, -1);
        island("people 0007;", 2, 7);
        island("people 00000000000000000007;", 2, 7);
        island("people 4294967296;", 2, 7);
        sentence("told 099;", 0, -1);
        sentence("told 0099;", -3, 5);
        sentence("told 999;", -3, 5);
        sentence("told 1000;", -3, 5);
        sentence("many liar<0000;", -3, 10);
        sentence("road 0000;", -3, 5);
        sentence("day 0000;", -3, 4);
        sentence("word 0000;", -3, 5);
        island("people 0;roads 0001;", 2, 15);
        island("people 0;day 0000;", 2, 13);
        island("people 0;lies 0 0000;", 2, 16);
    }

    /** "A TEXT of at most 500 bytes": one of just so many is read to its last byte. */
    private static void fiveHundredBytes() {
        StringBuilder s = new StringBuilder("people 1;");
        while (s.length() + 7 <= 500) {
            s.append("words;\n");
        }
        while (s.length() < 500) {
            s.append(' ');
        }
        String blankEnd = s.toString();
        island(blankEnd, 0, -1);
        s.setLength(492);
        island(s.append(" roads 2").toString(), 1, 500);
        s.setLength(492);
        island(s.append("roads 2;").toString(), 0, -1);
        s.setLength(492);
        island(s.append("roads 9;").toString(), 2, 498);
        IslandHall x = Check.hall("people 0;");
        StringBuilder said = new StringBuilder("day0");
        while (said.length() < 492) {
            said.append("or day0");
        }
        while (said.length() < 499) {
            said.append(' ');
        }
        CHECK.due("a sentence of 500 bytes", () -> Check.sentence(x, said + ";"), 0);
        CHECK.due("is so", () -> x.could(-1, 0), 1);
        CHECK.due("of 499 without its end", () -> Check.sentence(x, said.toString()), -2);
        CHECK.due("ends too soon", x::fault, 499);
    }

    /** "words (a .. z, the longest row)". */
    private static void tokensTakeTheLongestRow() {
        worlds("people2;roads4;words;", 32);
        island("people 1;may a honestliar;", 3, 15);
        island("people 1;mayaliar;", 1, 9);
        island("people 1;may aliar;", 1, 13);
        island("people 1;may a liar2;", 1, 19);
        sentence("nota is liar;", -2, 0);
        sentence("told0or told1;", 0, -1);
        sentence("not(a is liar)and(b is liar);", 0, -1);
        sentence("told 0or1;", -2, 8);
        sentence("told 1 0;", -2, 7);
    }

    /** "blanks (32, 10) between them count for nothing". */
    private static void blanks() {
        worlds(" \n people \n\n 2 \n ; \n", 4);
        island("people 2;  ", 0, -1);
        island("peo ple 2;", 1, 0);
        island("people 1\n2;", 1, 9);
        sentence(" a\nis\nliar\n;\n", 0, -1);
        sentence("many liar < = 3;", -2, 12);
    }

    /** "1 a TOKEN that .. is none": every byte but those of TOKENS and blanks. */
    private static void bytesThatAreNoTokens() {
        for (int b = 0; b < 256; b++) {
            boolean blank = b == 32 || b == 10;
            boolean ends = b == ';';
            island("people 0;words" + (char) b, ends ? 0 : 1, blank ? 15 : ends ? -1 : b >= 'a' && b <= 'z' ? 9 : 14);
            island("people 0;" + (char) b, blank ? 0 : 1, blank ? -1 : 9);
        }
    }

    /** "* any number of times": none, one and many. */
    private static void anyNumberOfTimes() {
        worlds("people 1;", 2);
        worlds("people 1;words;", 4);
        StringBuilder clauses = new StringBuilder("people 1;");
        for (int i = 0; i < 70; i++) {
            clauses.append("words;");
        }
        worlds(clauses.toString(), 4);
        worlds("people 1;may a free;", 1);
        worlds("people 1;may a free dayer turner liar honest;", 6);
        StringBuilder lies = new StringBuilder("people 1;lies");
        for (int i = 0; i < 200; i++) {
            lies.append(' ').append(i % 7);
        }
        worlds(lies + ";", 14);
        StringBuilder ors = new StringBuilder("a is liar");
        StringBuilder ands = new StringBuilder("a is liar");
        for (int i = 0; i < 30; i++) {
            ors.append(" or a is liar");
            ands.append(" and a is liar");
        }
        sentence(ors + ";", 0, -1);
        sentence(ands + ";", 0, -1);
        sentence("a is liar or;", -2, 12);
        sentence("a is liar and;", -2, 13);
    }

    private static void so(String text, int due) {
        IslandHall x = Check.hall("people 2;", text);
        CHECK.due("worlds in which is so: " + text, () -> x.could(-1, 0), due);
    }

    /** "EXPR: AND ('or' AND)*. AND: NOT ('and' NOT)*": what binds closer; '<' '=' '>' at their edges. */
    private static void orderOfSigns() {
        so("road 0 or road 1 and road 1;", 4);
        so("(road 0 or road 1) and road 1;", 0);
        so("road 1 and road 1 or road 0;", 4);
        so("not road 1 or road 0;", 4);
        so("not (road 1 or road 0);", 0);
        so("not road 1 and road 1;", 0);
        so("not not road 1;", 0);
        so("many liar<0;", 0);
        so("many liar=0;", 1);
        so("many liar>0;", 3);
        so("many liar<2;", 3);
        so("many liar=2;", 1);
        so("many liar>1;", 1);
        so("many liar>2;", 0);
        so("many liar<3;", 4);
        so("many liar=7;", 0);
        so("many liar<8;", 4);
        so("many liar=8;", 0);
        so("many liar>8;", 0);
        so("many liar<99;", 4);
        so("many free<1;", 4);
        so("many free=0;", 4);
    }

    /** "'many' KIND ('<' | '=' | '>') NUMBER", of each KIND, with all seven and none, and NUMBERS above seven. */
    private static void manyOfEachKind() {
        for (String kind : KINDS) {
            StringBuilder s = new StringBuilder("people 7;");
            for (char name = 'a'; name <= 'g'; name++) {
                s.append("may ").append(name).append(' ').append(kind).append(';');
            }
            IslandHall x = Check.hall(s.toString());
            int all = x.worlds(0);
            String[] texts = {"=7;", "=6;", "=8;", ">6;", ">7;", "<7;", "<8;", "<9;", ">0;", "=0;", ">99;", "<99;"};
            int[] due = {all, 0, 0, all, 0, 0, all, all, all, 0, 0, all};
            for (int i = 0; i < texts.length; i++) {
                int at = i;
                Check.sentence(x, "many " + kind + texts[i]);
                CHECK.due("many " + kind + texts[i], () -> x.could(-1, at), due[at]);
            }
            for (String other : KINDS) {
                int at = x.count(2);
                Check.sentence(x, "many " + other + (other.equals(kind) ? "=7;" : "=0;"));
                CHECK.due("seven " + kind + ", many " + other, () -> x.could(-1, at), all);
            }
        }
    }

    /** "Each of PEOPLE MAY be HONEST or a LIAR, if 'may' doesn't tell of it". */
    private static void mayOfNobodyTold() {
        IslandHall x = Check.hall("people 3;may b free;");
        CHECK.due("not told of a", () -> x.may(0, 0), 3);
        CHECK.due("told of b", () -> x.may(1, 0), 16);
        CHECK.due("not told of c", () -> x.may(2, 0), 3);
    }

    /** "of several 'may' of one .. the last counts". */
    private static void lastMayCounts() {
        IslandHall x = Check.hall("people 2;may a free dayer;may b free;may a turner;");
        CHECK.due("the last of a", () -> x.may(0, 0), 4);
        CHECK.due("the one of b", () -> x.may(1, 0), 16);
        // a kind that another 'may' told is told anew
        worlds("people 1;may a liar;may a liar;", 1);
    }

    /** "of several .. 'roads' .. the last counts". */
    private static void lastRoadsCount() {
        worlds("people 0;roads 4;roads 2;", 2);
        worlds("people 0;roads 2;roads 4;", 4);
        IslandHall x = Check.hall("people 0;roads 4;roads 2;");
        CHECK.due("count", () -> x.count(1), 2);
    }

    /** "of several .. 'day' .. the last counts". */
    private static void lastDayCounts() {
        IslandHall x = Check.hall("people 0;day 6;day 2;");
        CHECK.due("the last day", () -> x.world(0, 17), 2);
        CHECK.due("alone", () -> x.worlds(0), 1);
    }

    /** "of several .. 'lies' the last counts". */
    private static void lastLiesCount() {
        IslandHall x = Check.hall("people 0;lies 0 6;lies 3;");
        CHECK.due("the last", () -> x.count(6), 8);
    }

    /** "Without 'roads' there is one ROAD". */
    private static void withoutRoads() {
        IslandHall x = Check.hall("people 0;");
        CHECK.due("one", () -> x.count(1), 1);
        CHECK.due("road 0", () -> x.can(1), 1);
    }

    /** "'day' tells which it is: without it any of 7, if 'lies' is told, else DAY 0". */
    private static void dayWithAndWithoutLies() {
        IslandHall neither = Check.hall("people 0;");
        CHECK.due("neither", () -> neither.can(2), 1);
        IslandHall lies = Check.hall("people 0;lies 4;");
        CHECK.due("lies alone", () -> lies.can(2), 127);
        IslandHall day = Check.hall("people 0;day 5;");
        CHECK.due("day alone", () -> day.can(2), 32);
        IslandHall both = Check.hall("people 0;lies 4;day 5;");
        CHECK.due("both", () -> both.can(2), 32);
        IslandHall other = Check.hall("people 0;day 5;lies 4;");
        CHECK.due("both the other way round", () -> other.can(2), 32);
        IslandHall zero = Check.hall("people 0;lies 4;day 0;");
        CHECK.due("day 0 told", () -> zero.can(2), 1);
    }

    /** "'lies' tells the days of lies (without: none)". */
    private static void daysOfLies() {
        IslandHall none = Check.hall("people 1;may a dayer;", "road 0;");
        CHECK.due("none", () -> none.count(6), 0);
        CHECK.due("a dayer is honest then", () -> none.could(0, 0), 1);
        IslandHall all = Check.hall("people 1;may a dayer;lies 6 5 4 3 2 1 0;", "road 0;");
        CHECK.due("all", () -> all.count(6), 127);
        CHECK.due("a dayer is a liar then", () -> all.could(0, 0), 0);
        IslandHall twice = Check.hall("people 0;lies 2 2;");
        CHECK.due("one told twice", () -> twice.count(6), 4);
    }

    /** "with 'words' any WORD may be yes, without it WORD 0 is". */
    private static void words() {
        IslandHall without = Check.hall("people 0;");
        CHECK.due("without", () -> without.can(3), 1);
        IslandHall with = Check.hall("people 0;words;");
        CHECK.due("with", () -> with.can(3), 3);
        IslandHall twice = Check.hall("people 0;words;words;");
        CHECK.due("told twice", () -> twice.can(3), 3);
    }

    /** "A WORLD must keep all FACTS, as they are ahead of all EVENTS." */
    private static void facts() {
        worlds("people 3;fact a is liar;", 4);
        worlds("people 3;fact a is liar;fact b is liar;fact c is liar;", 1);
        worlds("people 3;fact a is liar;fact a is honest;", 0);
        worlds("people 0;fact told 0;", 0);
        worlds("people 0;fact not told 0;", 1);
        IslandHall x = Check.hall("people 1;may a turner;fact a says (road 0) and not told 0;", "road 0;");
        CHECK.due("that begins honest", () -> x.world(0, 8), 0);
        x.says(0, 0);
        CHECK.due("the fact is not asked again", () -> x.worlds(1), 1);
        CHECK.due("nor of those that keep facts", () -> x.worlds(0), 1);
    }

    private static final String THREE_THOUSAND = "people 5;may a turner dayer free liar;may b turner honest dayer free;"
            + "may c turner dayer free liar;may d honest liar dayer;may e liar honest;roads 4;";
    private static final String MANY_KINDS = "people 4;may a" + ALL_KINDS + "may b" + ALL_KINDS + "may c" + ALL_KINDS;

    /** "At most 3000 WORLDS", "6 (at the text's length) more than 3000 WORLDS": 3000, and 3024, the next that can be. */
    private static void threeThousandWorlds() {
        worlds(THREE_THOUSAND, 3000);
        IslandHall x = Check.hall(THREE_THOUSAND);
        CHECK.due("the last", () -> x.world(2999, 16), 3);
        CHECK.throwsNoSuch("none behind it", () -> x.world(3000, 16));
        Check.sentence(x, "road 3;");
        CHECK.due("in how many that is so", () -> x.could(-1, 0), 750);
        CHECK.due("e could say it", () -> x.could(4, 0), 1500);
        CHECK.due("the kinds of e", () -> x.may(4, 1), 3);
        CHECK.due("the roads", () -> x.can(1), 15);
        CHECK.due("e, who is honest or a liar, says it", () -> x.says(4, 0), 0);
        CHECK.due("a quarter as honest, the rest as liars", () -> x.worlds(1), 375 + 1125);
        CHECK.due("the last is a liar's", () -> x.world(1499, 4), 1);
        CHECK.due("on another road", () -> x.world(1499, 16), 2);
        CHECK.due("rows of kinds", () -> x.told(0), 4 * 4 * 4 * 3 * 2);
        CHECK.due("it is needed", x::needless, 0);
        CHECK.due("no knot", x::knots, 0);
        String more = MANY_KINDS + "may d free;lies 1;words;";
        island(more, 6, more.length());
        island(more + " \n", 6, more.length() + 2);
        // the last clause of each kind counts, so none of these has too many at last
        worlds(more + "day 1;", 432);
        worlds("people 7;roads 4;words;lies 1;day 1;roads 2;", 512);
        island("people 7;roads 4;words;lies 0;", 6, 30);
        StringBuilder most = new StringBuilder("people 7;");
        for (char name = 'a'; name <= 'g'; name++) {
            most.append("may ").append(name).append(ALL_KINDS);
        }
        most.append("roads 4;words;lies 0;");
        island(most.toString(), 6, most.length());
    }

    /** "At most 3000 WORLDS, ahead of FACTS." */
    private static void worldsAreCountedAheadOfFacts() {
        String text = MANY_KINDS + "may d free;lies 1;words;fact day 1;";
        island(text, 6, text.length());
    }

    /** "SENTENCES 0, 1 .. (at most 30)", "-9: there are 30". */
    private static void thirtySentences() {
        IslandHall x = Check.hall("people 1;");
        for (int i = 0; i < 30; i++) {
            int due = i;
            CHECK.due("sentence " + i, () -> Check.sentence(x, "a is liar;"), due);
        }
        CHECK.due("the 31st", () -> Check.sentence(x, "a is liar;"), -9);
        CHECK.due("thirty", () -> x.count(2), 30);
        CHECK.due("the last is there", () -> x.could(-1, 29), 1);
        CHECK.throwsNoSuch("none behind it", () -> x.could(-1, 30));
    }

    /** "FAULTS, the first along the text". */
    private static void firstAlongTheText() {
        island("people 8;foo", 2, 7);
        island("people 2;may c foo;", 4, 13);
        island("people 2;may a foo liar liar;", 3, 15);
        island("people 2;may a liar liar foo;", 5, 20);
        island("people 2;roads 9;may c liar;", 2, 15);
        island("people 2;may c liar;roads 9;", 4, 13);
        String many = "people 7;roads 4;words;lies 0;";
        island(many + "may h liar;", 4, 34);
        island(many + "x", 1, 30);
        sentence("c is foo;", -5, 0);
        sentence("a is foo or c is liar;", -4, 5);
        sentence("road 9 or ;", -3, 5);
    }

    /** "at a TOKEN's first byte". */
    private static void firstByteOfTheToken() {
        island("   foo", 1, 3);
        island("\n people \n\n 12345;", 2, 12);
        sentence("a is\n\n  foobar;", -4, 8);
        sentence("a as \n c;", -5, 7);
        sentence("road\n 004;", -3, 6);
    }

    /** "of one TOKEN the least". */
    private static void leastOfOneToken() {
        // 1 and 2: too deep, and can't stand there
        sentence("((((((foo", -2, 6);
        sentence("((((((12345", -2, 6);
        sentence("((((((ab", -2, 6);
        sentence("((((((and", -2, 6);
        // 1 and 2: too many digits, where no NUMBER can stand
        sentence("12345;", -2, 0);
        sentence("a is 12345;", -2, 5);
        island("12345", 1, 0);
        island("people 2;99999;", 1, 9);
        // 2 and 4: too deep, and nobody's
        sentence("((((((z is liar))))));", -3, 6);
        sentence("(((((z is liar)))));", -5, 5);
        // 1 and 6: the text ends too soon, and has too many worlds
        island("people 7;roads 4;words;lies 0", 1, 29);
        // 5 ahead of 6
        island("people 7;roads 4;words;lies 0;may a liar liar;", 5, 41);
    }

    /** "1 a TOKEN that can't stand there", at each place of the grammar. */
    private static void tokensThatCannotStand() {
        island("2;", 1, 0);
        island("people;", 1, 6);
        island("people two;", 1, 7);
        island("people 2 words;", 1, 9);
        island("people 2 3;", 1, 9);
        island("people 2;;", 1, 9);
        island("people 2;liar;", 1, 9);
        island("people 2;words 1;", 1, 15);
        island("people 2;words)", 1, 14);
        island("people 2;roads;", 1, 14);
        island("people 2;roads two;", 1, 15);
        island("people 2;roads 2 2;", 1, 17);
        island("people 2;day;", 1, 12);
        island("people 2;day day;", 1, 13);
        island("people 2;day 2 2;", 1, 15);
        island("people 2;lies;", 1, 13);
        island("people 2;lies day;", 1, 14);
        island("people 2;lies 1 day;", 1, 16);
        island("people 2;may;", 1, 12);
        island("people 2;may 1;", 1, 13);
        island("people 2;may aa liar;", 1, 13);
        island("people 2;may a;", 1, 14);
        island("people 2;may a (liar);", 1, 15);
        island("people 2;may a liar b;", 1, 20);
        island("people 2;may a liar, free;", 1, 19);
        island("people 2;fact;", 1, 13);
        island("people 2;fact liar;", 1, 14);
        island("people 2;fact a is liar b;", 1, 24);
        island("people 2;fact a is liar);", 1, 23);
        sentence(";", -2, 0);
        sentence(");", -2, 0);
        sentence("and;", -2, 0);
        sentence("not;", -2, 3);
        sentence("not and;", -2, 4);
        sentence("(;", -2, 1);
        sentence("();", -2, 1);
        sentence("(a is liar;", -2, 10);
        sentence("a is liar);", -2, 9);
        sentence("a;", -2, 1);
        sentence("a b;", -2, 2);
        sentence("a are liar;", -2, 2);
        sentence("a is;", -2, 4);
        sentence("a is 1;", -2, 5);
        sentence("a as;", -2, 4);
        sentence("a as 1;", -2, 5);
        sentence("a as bb;", -2, 5);
        sentence("a says;", -2, 6);
        sentence("a says b is liar;", -2, 7);
        sentence("a says ();", -2, 8);
        sentence("a says (b is liar;", -2, 17);
        sentence("road;", -2, 4);
        sentence("road a;", -2, 5);
        sentence("day;", -2, 3);
        sentence("word;", -2, 4);
        sentence("told;", -2, 4);
        sentence("many;", -2, 4);
        sentence("many 1;", -2, 5);
        sentence("many liar;", -2, 9);
        sentence("many liar 1;", -2, 10);
        sentence("many liar<;", -2, 10);
        sentence("many liar<a;", -2, 10);
        sentence("many liar<1 2;", -2, 12);
        sentence("a is liar b is liar;", -2, 10);
        sentence("a is liar;a is liar;", -2, 10);
        sentence("a is liar;;", -2, 10);
        sentence("roads 1;", -2, 0);
        sentence("words;", -2, 0);
    }

    /** "(the text's length where it ends too soon)", behind each TOKEN, with and without blanks. */
    private static void textsThatEndTooSoon() {
        String whole = "people 2 ; may a liar free ; roads 2 ; day 2 ; lies 1 2 ; words ;"
                + " fact not ( a is liar or b as a ) and a says ( road 0 or day 0 ) or many liar < 2 and word 0 or told 0 ;";
        for (int n = 0; n <= whole.length(); n++) {
            boolean behindToken = n == whole.length() || whole.charAt(n) == ' ';
            if (behindToken) {
                String part = whole.substring(0, n);
                boolean complete = part.endsWith(";");
                island(part, complete ? 0 : 1, complete ? -1 : n);
                island(part + " \n ", complete ? 0 : 1, complete ? -1 : n + 3);
            }
        }
        island("", 1, 0);
        sentence("", -2, 0);
        sentence(" ", -2, 1);
        String said = "not ( a is liar or b as a ) and a says ( road 0 or day 0 ) or many liar < 2 and word 0 or told 0";
        for (int n = 0; n <= said.length(); n++) {
            if (n == said.length() || said.charAt(n) == ' ') {
                sentence(said.substring(0, n), -2, n);
                sentence(said.substring(0, n) + "\n", -2, n + 1);
            }
        }
    }

    /** "2 .. the first TOKEN of an EXPR within 6 others (that in a parenthesis, behind 'says')". */
    private static void expressionsWithinOthers() {
        sentence("(((((road 0)))));", 0, -1);
        sentence("((((((road 0))))));", -3, 6);
        sentence("(((((not road 0)))));", 0, -1);
        sentence("((((((not road 0))))));", -3, 6);
        sentence("(((((((road 0)))))));", -3, 6);
        sentence("a says(a says(a says(a says(a says(road 0)))));", 0, -1);
        sentence("a says(a says(a says(a says(a says(a says(road 0))))));", -3, 42);
        sentence("(a says(not(a says((road 0)))));", 0, -1);
        sentence("(a says(not(a says((not(road 0))))));", -3, 24);
        // those that are closed are not around it
        sentence("(((((road 0))))) and (((((road 0))))) or a says(((((road 0)))));", 0, -1);
        sentence("(((((road 0))))) and ((((((road 0))))));", -3, 27);
        island("people 1;fact (((((road 0)))));", 0, -1);
        island("people 1;fact ((((((road 0))))));", 2, 20);
    }

    /** "2 .. the seventh 'not' side by side". */
    private static void notsSideBySide() {
        sentence("not not not not not not road 0;", 0, -1);
        sentence("not not not not not not not road 0;", -3, 24);
        sentence("not\nnot not not not not not not not road 0;", -3, 24);
        sentence("not not not not not not (not not not not not not road 0);", 0, -1);
        sentence("not not not not not not (not not not not not not not road 0);", -3, 49);
        sentence("not not not not not not road 0 and not not not not not not road 0;", 0, -1);
        sentence("not not not not not not a says(not road 0);", 0, -1);
        sentence("not not not not not not;", -2, 23);
        so("not not not not not not road 0;", 4);
        so("not not not not not road 0;", 0);
        island("people 1;fact not not not not not not not road 0;", 2, 38);
    }

    /** "3 any word where a KIND must stand that is none". */
    private static void wordsThatAreNoKinds() {
        for (String kind : KINDS) {
            sentence("a is " + kind + ";", 0, -1);
            sentence("a is " + kind + "s;", -4, 5);
            sentence("a is " + kind.substring(1) + ";", -4, 5);
            sentence("many " + kind + "x<1;", -4, 5);
            island("people 1;may a " + kind + ";", 0, -1);
            island("people 1;may a " + kind + "x;", 3, 15);
        }
        for (String word : new String[] {"a", "z", "not", "people", "is", "kind"}) {
            sentence("a is " + word + ";", -4, 5);
            sentence("many " + word + "<1;", -4, 5);
            island("people 1;may a " + word + ";", 3, 15);
        }
        sentence("a is 1;", -2, 5);
        sentence("a is (;", -2, 5);
        sentence("a is Liar;", -2, 5);
        // one stands there already: none must
        island("people 1;may a liar foo;", 1, 20);
    }

    /** "4 a NAME of nobody", at each place where a NAME stands. */
    private static void namesOfNobody() {
        sentence("b is liar;", 0, -1);
        sentence("c is liar;", -5, 0);
        sentence("a as b;", 0, -1);
        sentence("a as c;", -5, 5);
        sentence("c as a;", -5, 0);
        sentence("b says (a is liar);", 0, -1);
        sentence("c says (a is liar);", -5, 0);
        sentence("z is liar;", -5, 0);
        island("people 2;may b liar;", 0, -1);
        island("people 2;may c liar;", 4, 13);
        island("people 0;may a liar;", 4, 13);
        island("people 0;fact a is liar;", 4, 14);
    }

    /** "5 a KIND that this 'may' told already". */
    private static void kindsToldTwice() {
        for (String kind : KINDS) {
            island("people 1;may a " + kind + " " + kind + ";", 5, 16 + kind.length());
            island("people 1;may a " + kind + ";may a " + kind + ";", 0, -1);
        }
        island("people 1;may a honest liar turner dayer free;", 0, -1);
        island("people 1;may a honest liar turner dayer free honest;", 5, 45);
        island("people 1;may a honest liar turner dayer free free;", 5, 45);
    }

    // ---- Promise 1 ----

    /** "Nobody, one ROAD: one WORLD." */
    private static void newObject() {
        IslandHall x = new IslandHall();
        long[] counts = {0, 1, 0, 0, 0, 0, 0, 0};
        for (int what = 0; what < counts.length; what++) {
            int w = what;
            CHECK.due("new: count " + w, () -> x.count(w), counts[w]);
        }
        CHECK.due("new: worlds that keep facts", () -> x.worlds(0), 1);
        CHECK.due("new: worlds that fit", () -> x.worlds(1), 1);
        CHECK.due("new: its road", () -> x.world(0, 16), 0);
        CHECK.due("new: its day", () -> x.world(0, 17), 0);
        CHECK.due("new: its word", () -> x.world(0, 18), 0);
        CHECK.throwsNoSuch("new: no other", () -> x.world(1, 16));
        CHECK.throwsNoSuch("new: nobody", () -> x.may(0, 0));
        CHECK.due("new: no fault", x::fault, -1);
        CHECK.due("new: no first", x::first, -1);
        CHECK.throwsNoSuch("new: no riddle", () -> x.line(0));
        CHECK.due("new: no event", x::back, -1);
        CHECK.due("new: one row of nobody", () -> x.told(0), 1);
        CHECK.due("new: it can be hidden", () -> x.hide(0, 0) ? 1 : 0, 1);
    }

    // ---- Promise 2 ----

    /** "Twenty bytes come behind the tape, of each number the highest first". */
    private static void feedTakesTheHighestByteFirst() {
        IslandHall x = new IslandHall();
        // "people 1;may a free;"
        CHECK.due("twenty", () -> x.feed(0x70656f70, 0x6c652031, 0x3b6d6179, 0x20612066, 0x7265653b), 20);
        // "roads 3;lies 6;words"
        CHECK.due("twenty more", () -> x.feed(0x726f6164, 0x7320333b, 0x6c696573, 0x20363b77, 0x6f726473), 40);
        // ";fact not day 5;    "
        CHECK.due("and behind them", () -> x.feed(0x3b666163, 0x74206e6f, 0x74206461, 0x7920353b, 0x20202020), 60);
        CHECK.due("an island", () -> x.island(56), 0);
        CHECK.due("free", () -> x.may(0, 0), 16);
        CHECK.due("worlds", () -> x.worlds(0), 36);
        // a byte of 128 or more is no negative step back into what is around it
        x.feed(0x70656f70, 0x6c652030, 0x3bffffff, 0xff80807f, 0x80000000);
        CHECK.due("bytes above 127", () -> x.island(20), 1);
        CHECK.due("at the first of them", x::fault, 9);
    }

    /** "how many it has; NONE, and none come, if it would have more than 500". */
    private static void feedStopsAtFiveHundred() {
        IslandHall x = new IslandHall();
        for (int i = 1; i <= 25; i++) {
            int due = 20 * i;
            CHECK.due("feed " + i, () -> x.feed(0x20202020, 0x20202020, 0x20202020, 0x20202020, 0x20202020), due);
        }
        CHECK.due("the 26th", () -> x.feed(0x3b3b3b3b, 0x3b3b3b3b, 0x3b3b3b3b, 0x3b3b3b3b, 0x3b3b3b3b), -1);
        CHECK.due("once more", () -> x.feed(0, 0, 0, 0, 0), -1);
        CHECK.due("none came", () -> x.count(5), 500);
        CHECK.throwsIllegal("not 501", () -> x.island(501));
        CHECK.due("blanks to the end", () -> x.island(500), 1);
        CHECK.due("nothing else there", x::fault, 500);
        CHECK.due("room again", () -> x.feed(0, 0, 0, 0, 0), 20);
    }

    // ---- Promise 3 ----

    /** "The tape's first n bytes .. are an ISLAND": no byte behind them counts. */
    private static void islandTakesTheFirstBytes() {
        IslandHall x = new IslandHall();
        Check.feed(x, "people 1;roads 4;foo");
        CHECK.due("the first 17", () -> x.island(17), 0);
        CHECK.due("four roads", () -> x.count(1), 4);
        Check.feed(x, "people 12;");
        CHECK.due("the first 8: people 1", () -> x.island(8), 1);
        CHECK.due("ends too soon there", x::fault, 8);
        Check.feed(x, "people 2;roads 3;");
        CHECK.due("the first 9", () -> x.island(9), 0);
        CHECK.due("one road", () -> x.count(1), 1);
        // what stood on the tape before doesn't stand behind it
        Check.feed(x, "people 3;");
        CHECK.due("all 20", () -> x.island(20), 0);
        CHECK.due("one road still", () -> x.count(1), 1);
        CHECK.due("none", () -> x.island(0), 1);
        CHECK.due("at once", x::fault, 0);
    }

    /** "(it is empty then)", whatever island() answers. */
    private static void tapeIsEmptyBehindAnIsland() {
        IslandHall x = new IslandHall();
        Check.feed(x, "people 1;roads 4;words;lies 0;");
        CHECK.due("a part of it", () -> x.island(9), 0);
        CHECK.due("empty", () -> x.count(5), 0);
        Check.feed(x, "people 1;roads 4;words;lies 0;");
        CHECK.due("with a fault", () -> x.island(8), 1);
        CHECK.due("empty behind a fault", () -> x.count(5), 0);
        Check.feed(x, "people 1;");
        CHECK.due("no bytes of it", () -> x.island(0), 1);
        CHECK.due("empty behind none", () -> x.count(5), 0);
        CHECK.due("bytes come at its begin", () -> Check.island(x, "people 5;"), 0);
        CHECK.due("five", () -> x.count(0), 5);
    }

    /** "likewise", of sentence(). */
    private static void tapeIsEmptyBehindASentence() {
        IslandHall x = Check.hall("people 1;");
        Check.feed(x, "a is liar;foo bar;");
        CHECK.due("a part of it", () -> x.sentence(10), 0);
        CHECK.due("empty", () -> x.count(5), 0);
        Check.feed(x, "a is liar;foo bar;");
        CHECK.due("with a fault", () -> x.sentence(9), -2);
        CHECK.due("empty behind a fault", () -> x.count(5), 0);
        Check.feed(x, "a is liar;");
        CHECK.due("no bytes of it", () -> x.sentence(0), -2);
        CHECK.due("empty behind none", () -> x.count(5), 0);
        for (int i = 1; i < 30; i++) {
            Check.sentence(x, "road 0;");
        }
        CHECK.due("one too many", () -> Check.sentence(x, "a is liar;"), -9);
        CHECK.due("empty behind that", () -> x.count(5), 0);
    }

    /** An object of which something is told, hidden and kept. */
    private static IslandHall busyHall() {
        IslandHall x = Check.hall("people 3;may c free turner;roads 2;lies 2 4;day 4;words;fact not a as b;",
                "a says (road 0);", "a is liar;", "told 0;", "c says (word 0 and told 0);");
        x.question(0, 1);
        x.question(2, 0);
        x.question(1, 2);
        x.says(2, 3);
        x.says(0, 2);
        x.back();
        x.answers(1, 0, 1);
        x.fewest(3);
        x.riddle(1);
        x.hide(3, 77);
        return x;
    }

    /** "0, or the FAULT (all stays)", of each FAULT. */
    private static void allStaysBehindAFaultyIsland() {
        String[] texts = {"", "people 1;roads 3;words;day 2;lies 1;may a free;fact a is free;foo", "people 1;roads 4;roads 5;",
            "people 1;may a free;may a foo;", "people 1;fact a is liar;fact b is liar;", "people 4;may d free;may d liar liar;",
            "people 7;roads 4;words;lies 0;fact a is liar;"};
        int[] faults = {1, 1, 2, 3, 4, 5, 6};
        IslandHall untouched = busyHall();
        IslandHall x = busyHall();
        String before = Check.sight(x);
        for (int i = 0; i < texts.length; i++) {
            String text = texts[i];
            CHECK.due(text, () -> Check.island(x, text), faults[i]);
        }
        CHECK.same("faulty islands", x, before);
        for (int i = 0; i < 8; i++) {
            int question = i % 3;
            CHECK.due("reply " + i + " of what was hidden", () -> x.reply(question), untouched.reply(question));
        }
        CHECK.due("the worlds that fit", () -> x.worlds(1), untouched.worlds(1));
        CHECK.due("a sentence of the people that there are", () -> Check.sentence(x, "c is free;"), 4);
        CHECK.due("so where it is so", () -> x.could(-1, 4), untouched.worlds(1));
    }

    /** "(all stays)" likewise: of each FAULT of a SENTENCE. */
    private static void allStaysBehindAFaultySentence() {
        String[] texts = {"", "a is liar;b", "road 4;", "a is foo;", "a is liar or d is liar;", "not not not not not not not road 0;",
            "((((((a is liar))))));"};
        int[] answers = {-2, -2, -3, -4, -5, -3, -3};
        IslandHall x = busyHall();
        String before = Check.sight(x);
        for (int i = 0; i < texts.length; i++) {
            String text = texts[i];
            CHECK.due(text, () -> Check.sentence(x, text), answers[i]);
        }
        CHECK.same("faulty sentences", x, before);
        CHECK.due("the next number is the next", () -> Check.sentence(x, "road 1;"), 4);
        // nothing of the faulty texts is in it
        CHECK.due("it is so where it is so", () -> x.could(-1, 4), 2);
    }

    /** "SENTENCES, EVENTS, QUESTIONS are gone, nothing is HIDDEN or kept." */
    private static void goneBehindAnIsland() {
        IslandHall x = Check.hall("people 2;may a turner;may b honest;roads 2;", "road 0;", "told 0;", "not road 0;");
        x.question(1, 0);
        x.question(1, 2);
        CHECK.due("fewest", () -> x.fewest(1), 1);
        CHECK.due("first is kept", x::first, 0);
        CHECK.due("riddle", () -> x.riddle(1), 1);
        CHECK.due("a line is kept", () -> x.line(0), 30);
        x.says(0, 0);
        x.says(1, 2);
        x.says(1, 0);
        CHECK.due("a knot", x::knots, 1);
        x.back();
        x.back();
        x.hide(0, 5);
        x.says(1, 2);
        x.says(1, 0);
        CHECK.due("a knot again", x::knots, 1);
        CHECK.due("the same island", () -> Check.island(x, "people 2;may a turner;may b honest;roads 2;"), 0);
        CHECK.due("sentences", () -> x.count(2), 0);
        CHECK.due("events", () -> x.count(3), 0);
        CHECK.due("questions", () -> x.count(4), 0);
        CHECK.due("hidden", () -> x.count(7), 0);
        CHECK.due("first", x::first, -1);
        CHECK.throwsNoSuch("line", () -> x.line(0));
        CHECK.throwsNoSuch("sentence 0", () -> x.says(0, 0));
        CHECK.throwsNoSuch("question 0", () -> x.reply(0));
        CHECK.due("event 0", x::back, -1);
        CHECK.due("needless", x::needless, 0);
        CHECK.due("knots", x::knots, 0);
        CHECK.due("all worlds fit", () -> x.worlds(1), 4);
        CHECK.due("numbers begin anew", () -> Check.sentence(x, "told 0;"), 0);
        CHECK.due("nothing was told", () -> x.could(-1, 0), 0);
        CHECK.due("questions begin anew", () -> x.question(0, 0), 0);
        CHECK.due("nothing replies", () -> x.reply(0), -1);
        // at first one half lies: the turn that was taken is gone
        x.says(0, 0);
        CHECK.due("a turner that lies at first", () -> x.world(0, 8), 1);
        CHECK.due("a new one of nobody", () -> Check.island(x, "people 0;"), 0);
        CHECK.due("one world", () -> x.worlds(1), 1);
        CHECK.throwsNoSuch("nobody", () -> x.may(0, 0));
    }

    /** "The tape's first n bytes .. are an ISLAND": what another TEXT told, with or without a FAULT, is not told. */
    private static void eachIslandIsToldAnew() {
        String told = "people 3;may a dayer;may b free;may c turner;roads 4;lies 1 3;words;fact a is honest or day 3;fact road 2;";
        String[] before = {told, told + "day 6;", told + "foo;", told + "day 6;foo"};
        for (String text : before) {
            IslandHall x = new IslandHall();
            Check.island(x, text);
            CHECK.due("a plain one behind " + text, () -> Check.island(x, "people 3;"), 0);
            CHECK.due("all its worlds", () -> x.worlds(0), 8);
            for (int who = 0; who < 3; who++) {
                int w = who;
                CHECK.due("may, by the text", () -> x.may(w, 0), 3);
                CHECK.due("may, in worlds", () -> x.may(w, 1), 3);
                CHECK.due("a liar at first", () -> x.world(7, 8 + w), 0);
            }
            CHECK.due("one road", () -> x.count(1), 1);
            CHECK.due("no days of lies", () -> x.count(6), 0);
            CHECK.due("road 0", () -> x.can(1), 1);
            CHECK.due("day 0", () -> x.can(2), 1);
            CHECK.due("word 0", () -> x.can(3), 1);
        }
        IslandHall y = Check.hall("people 1;");
        CHECK.due("a liar alone", () -> Check.island(y, "people 1;may a liar;"), 0);
        Check.sentence(y, "a is honest;");
        CHECK.due("is not honest, though one was", () -> y.could(-1, 0), 0);
        CHECK.due("only a liar", () -> y.may(0, 1), 2);
        // a small one behind the greatest
        IslandHall z = Check.hall(THREE_THOUSAND, "road 0 or road 1 or road 2 or road 3;");
        z.says(0, 0);
        z.says(4, 0);
        CHECK.due("64 worlds", () -> Check.island(z, "people 6;"), 0);
        Check.sentence(z, "not road 0;");
        Check.sentence(z, "a is honest;");
        CHECK.due("that fit", () -> z.worlds(1), 64);
        CHECK.due("rows of kinds", () -> z.told(0), 64);
        CHECK.throwsNoSuch("no 65th", () -> z.world(64, 0));
        CHECK.due("anyone may say that it is honest", () -> z.says(0, 1), 0);
        CHECK.due("which is needless", z::needless, 1);
        CHECK.due("and nobody needs it", () -> z.enough(0), 0);
        CHECK.due("no knot", z::knots, 0);
        CHECK.due("the road is known", () -> z.fewest(1), 0);
        CHECK.due("by what a can say", () -> z.riddle(1), 1);
        CHECK.due("a liar", () -> z.could(0, 0), 32);
        IslandHall w = Check.hall("people 2;may a free;roads 4;lies 0;words;", "road 0;");
        CHECK.due("64 worlds behind 112", () -> Check.island(w, "people 6;"), 0);
        Check.sentence(w, "a is honest;");
        w.says(0, 0);
        CHECK.due("day 0 needs no event", () -> w.enough(2), 0);
        IslandHall v = Check.hall("people 2;may a free;roads 4;lies 0;words;", "road 0;");
        v.says(0, 0);
        CHECK.due("64 worlds behind 112 that fit an event", () -> Check.island(v, "people 6;"), 0);
        Check.sentence(v, "a is liar;");
        v.says(0, 0);
        CHECK.due("an event that none fits", v::knots, 1);
        CHECK.due("is a knot", () -> v.knot(0), 1);
    }

    /** "IllegalArgumentException: the tape has not so many, n below 0". */
    private static void illegalLengths() {
        IslandHall x = new IslandHall();
        CHECK.throwsIllegal("an empty tape, island 1", () -> x.island(1));
        CHECK.throwsIllegal("an empty tape, sentence 1", () -> x.sentence(1));
        CHECK.due("an empty tape, island 0", () -> x.island(0), 1);
        CHECK.due("an empty tape, sentence 0", () -> x.sentence(0), -2);
        for (int n : new int[] {-1, -2, Integer.MIN_VALUE, 21, 500, Integer.MAX_VALUE}) {
            Check.feed(x, "people 1;");
            CHECK.throwsIllegal("island " + n, () -> x.island(n));
            CHECK.throwsIllegal("sentence " + n, () -> x.sentence(n));
            CHECK.due("all that there are", () -> x.island(20), 0);
        }
        for (int i = 0; i < 30; i++) {
            Check.sentence(x, "road 0;");
        }
        CHECK.throwsIllegal("with thirty sentences too, above", () -> x.sentence(1));
        CHECK.throwsIllegal("with thirty sentences too, below", () -> x.sentence(-1));
    }

    /** "(nothing changes)". */
    private static void illegalLengthsChangeNothing() {
        IslandHall x = busyHall();
        CHECK.due("a fault", () -> Check.sentence(x, "a is foo;"), -4);
        Check.feed(x, "people 5;roads 4;");
        String before = Check.sight(x);
        for (int n : new int[] {-1, 21, Integer.MIN_VALUE, Integer.MAX_VALUE}) {
            CHECK.throwsIllegal("island " + n, () -> x.island(n));
            CHECK.throwsIllegal("sentence " + n, () -> x.sentence(n));
        }
        CHECK.same("illegal lengths", x, before);
        CHECK.due("the fault stays", x::fault, 5);
        CHECK.due("the tape stays", () -> x.count(5), 20);
        CHECK.due("its bytes too", () -> x.island(17), 0);
        CHECK.due("five", () -> x.count(0), 5);
    }

    // ---- Promise 4 ----

    /** "each told by a TEXT of its own (EXPR ';'), of the PEOPLE that there are". */
    private static void sentencesOfThePeopleThereAre() {
        IslandHall x = new IslandHall();
        CHECK.due("of nobody", () -> Check.sentence(x, "a is liar;"), -5);
        CHECK.due("about the road", () -> Check.sentence(x, "road 3;"), 0);
        CHECK.due("seven", () -> Check.island(x, "people 7;"), 0);
        CHECK.due("of g", () -> Check.sentence(x, "g is liar;"), 0);
        CHECK.due("of h", () -> Check.sentence(x, "h is liar;"), -5);
        CHECK.due("one", () -> Check.island(x, "people 1;"), 0);
        CHECK.due("of b", () -> Check.sentence(x, "b is liar;"), -5);
        // a faulty island tells of nobody new
        CHECK.due("a faulty island", () -> Check.island(x, "people 7;foo;"), 1);
        CHECK.due("of b still", () -> Check.sentence(x, "b is liar;"), -5);
        // roads and days that there are not can still be told of
        CHECK.due("a road that isn't there", () -> Check.sentence(x, "road 3 or day 6 or word 1;"), 0);
        CHECK.due("is not so", () -> x.could(-1, 0), 0);
    }

    /** "-9: there are 30 (ahead of a FAULT)". */
    private static void thirtyGoAheadOfAFault() {
        IslandHall x = Check.hall("people 1;");
        for (int i = 0; i < 29; i++) {
            Check.sentence(x, "a is liar;");
        }
        CHECK.due("a fault of the 30th", () -> Check.sentence(x, "foo;"), -2);
        CHECK.due("the 30th", () -> Check.sentence(x, "road 0;"), 29);
        CHECK.due("a fault of an island", () -> Check.island(x, "people 8;"), 2);
        CHECK.due("its place", x::fault, 7);
        String before = Check.sight(x);
        for (String text : new String[] {"", "foo;", "road 9;", "a is foo;", "b is liar;", "road 1;"}) {
            CHECK.due("-9 for " + text, () -> Check.sentence(x, text), -9);
            CHECK.due("that is no fault", x::fault, -1);
        }
        CHECK.same("refused sentences", x, before);
        CHECK.due("a new island has room", () -> Check.island(x, "people 1;"), 0);
        CHECK.due("for the first", () -> Check.sentence(x, "road 0;"), 0);
    }

    // ---- Promise 5 ----

    /** "The place of the latest FAULT of island(), sentence(); NONE, if the latest of them had none." */
    private static void latestFault() {
        IslandHall x = new IslandHall();
        CHECK.due("none yet", x::fault, -1);
        Check.island(x, "people 9;");
        CHECK.due("of an island", x::fault, 7);
        Check.feed(x, "   ");
        x.count(0);
        CHECK.due("other calls leave it", x::fault, 7);
        x.island(3);
        CHECK.due("of the next", x::fault, 3);
        Check.sentence(x, "road 9;");
        CHECK.due("of a sentence", x::fault, 5);
        Check.sentence(x, "road 0;");
        CHECK.due("a sentence that had none", x::fault, -1);
        Check.sentence(x, "road;");
        CHECK.due("of one again", x::fault, 4);
        Check.island(x, "people 1;");
        CHECK.due("an island that had none", x::fault, -1);
        Check.island(x, "");
        CHECK.due("at place 0", x::fault, 0);
    }

    // ---- Promise 6 ----

    /** "0 PEOPLE .. 7 whether something is HIDDEN (1). NoSuchElementException: another what." */
    private static void count() {
        IslandHall x = busyHall();
        x.feed(0, 0, 0, 0, 0);
        long[] due = {3, 2, 4, 2, 3, 20, 20, 1};
        for (int i = 0; i < due.length; i++) {
            int what = i;
            CHECK.due("count " + what, () -> x.count(what), due[what]);
        }
        for (int what : new int[] {-1, 8, 9, Integer.MIN_VALUE, Integer.MAX_VALUE}) {
            CHECK.throwsNoSuch("count " + what, () -> x.count(what));
        }
    }

    // ---- Promise 7 ----

    /** "by the TEXT (what 0), in WORLDS that FIT (1), as bits"; "another what". */
    private static void mayByTextAndByWorlds() {
        IslandHall x = Check.hall("people 2;may a" + ALL_KINDS + "fact not a is free;", "a is liar;", "road 0;");
        CHECK.due("all by the text", () -> x.may(0, 0), 31);
        CHECK.due("facts bar one", () -> x.may(0, 1), 15);
        x.says(0, 1);
        CHECK.due("an event bars one", () -> x.may(0, 1), 13);
        CHECK.due("the text stays", () -> x.may(0, 0), 31);
        x.says(1, 0);
        CHECK.due("b is a liar", () -> x.may(1, 1), 2);
        x.says(1, 1);
        CHECK.due("nothing fits", () -> x.may(1, 1), 0);
        CHECK.due("nor for a", () -> x.may(0, 1), 0);
        CHECK.due("by the text still", () -> x.may(1, 0), 3);
        for (int what : new int[] {-1, 2, Integer.MIN_VALUE, Integer.MAX_VALUE}) {
            CHECK.throwsNoSuch("may 0 " + what, () -> x.may(0, what));
        }
    }

    /** "NoSuchElementException: no such one". */
    private static void mayOfNobody() {
        for (int n = 0; n <= 7; n++) {
            IslandHall x = Check.hall("people " + n + ";");
            int people = n;
            for (int what = 0; what < 2; what++) {
                int w = what;
                CHECK.due("the last of " + n, () -> x.may(people - 1, w), people == 0 ? Check.NO_SUCH : 3);
                CHECK.throwsNoSuch("none behind " + n, () -> x.may(people, w));
                CHECK.throwsNoSuch("none at -1 of " + n, () -> x.may(-1, w));
            }
            CHECK.throwsNoSuch("least", () -> x.may(Integer.MIN_VALUE, 0));
            CHECK.throwsNoSuch("most", () -> x.may(Integer.MAX_VALUE, 1));
        }
    }
}
