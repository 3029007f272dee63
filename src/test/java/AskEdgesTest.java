/** Each sentence behind "==== 3." and of promises 20 to 26 that names an edge. */
public final class AskEdgesTest {
    private static final Check CHECK = new Check();
    private static final int[] FAR = {Integer.MIN_VALUE, -1, Integer.MAX_VALUE};

    public static void main(String[] args) {
        tenQuestions();
        hundredWorlds();
        noneToThreeQuestions();
        choiceByWordsHeard();
        askedAgain();
        oneAnswerOrNoWorld();
        wordsUnknown();
        turnsAndTellingsOfTheAsked();
        firstIsTheLeast();
        hiddenByItsPlace();
        hiddenWordByKind();
        seedWraps();
        seedOfFreeOnesAlone();
        replyIsAnEvent();
        oneOrTwoSayings();
        sayingsOfSentencesThereAre();
        fewestSayingsGoFirst();
        someWorldIsLeft();
        toldBehindAllEvents();
        secondBehindTheFirst();
        firstRowOfSayings();
        firstNotAboveSecond();
        thirtyTimesTheOne();
        questionOfNobodyOrNothing();
        questionRefusesTheEleventh();
        fewestOfWhat();
        fewestKeepsFirst();
        fewestKeepsNoneOfNone();
        fewestOfTooFewKeepsWhatWas();
        fewestOfTooManyKeepsWhatWas();
        fewestChangesNothingElse();
        hideRefuses();
        hideAnew();
        replyOfNothingHidden();
        replyRefusesTheThirteenth();
        replyOfNoQuestion();
        riddleOfWhat();
        riddleNeedsTwoEvents();
        riddleOfThreeHundred();
        riddleOfNoneKeepsWhatWas();
        riddleOfTooManyKeepsWhatWas();
        riddleChangesNothingElse();
        lineOfWhich();
        CHECK.end();
    }

    // ---- behind "==== 3." ----

    /** "QUESTIONS 0, 1 .. (at most 10)". */
    private static void tenQuestions() {
        IslandHall x = Check.hall("people 2;", "a is liar;", "b is liar;");
        for (int i = 0; i < 10; i++) {
            int due = i;
            CHECK.due("question " + i, () -> x.question(due % 2, 1), due);
            CHECK.due("so many", () -> x.count(4), due + 1);
        }
        CHECK.due("the eleventh", () -> x.question(0, 0), -1);
        CHECK.due("ten", () -> x.count(4), 10);
    }

    private static final String NINETY_NINE = "people 7;fact many liar<5";

    /** "(at most 100 WORLDS FIT)", "-2: more than 100 WORLDS FIT". */
    private static void hundredWorlds() {
        IslandHall hundred = Check.hall(NINETY_NINE + " or many liar=7;", "a is liar;");
        CHECK.due("a hundred", () -> hundred.worlds(1), 100);
        CHECK.due("may be asked of: the road", () -> hundred.fewest(1), 0);
        CHECK.due("may be asked of: who", () -> hundred.fewest(0), -1);
        IslandHall more = Check.hall(NINETY_NINE + " or many liar=7 or many liar=5 and a is honest and b is honest;", "a is liar;",
                "b is liar;");
        CHECK.due("one more", () -> more.worlds(1), 101);
        for (int what = 0; what < 4; what++) {
            int w = what;
            CHECK.due("may not, answer " + w, () -> more.fewest(w), -2);
        }
        more.says(0, 1);
        CHECK.due("fewer", () -> more.worlds(1) <= 100 ? 1 : 0, 1);
        CHECK.due("those that fit count, not those that keep facts", () -> more.fewest(1), 0);
        // the 65th world alone has road 1
        IslandHall late = Check.hall("people 7;may g honest;roads 2;fact road 0 or many liar=6;", "road 1;");
        CHECK.due("worlds", () -> late.worlds(1), 65);
        late.question(6, 0);
        CHECK.due("the last world may be the one", () -> late.fewest(1), 1);
    }

    /** "the least number (0 to 3) of QUESTIONS", "NONE: three are too few". */
    private static void noneToThreeQuestions() {
        String[] asked = {"b is liar;", "c is liar;", "d is liar;", "e is liar;"};
        for (int n = 0; n <= 4; n++) {
            IslandHall x = Check.hall("people " + (n + 1) + ";may a honest;");
            for (int i = 0; i < n; i++) {
                Check.sentence(x, asked[i]);
                x.question(0, i);
            }
            CHECK.due("rows of " + n, () -> x.told(0), 1 << n);
            CHECK.due("questions for " + n, () -> x.fewest(0), n > 3 ? -1 : n);
        }
        IslandHall none = Check.hall("people 1;");
        CHECK.due("no question at all, two answers", () -> none.fewest(0), -1);
        CHECK.due("no question at all, one answer", () -> none.fewest(1), 0);
        IslandHall nobody = new IslandHall();
        CHECK.due("nobody to ask, one answer", () -> nobody.fewest(0), 0);
    }

    /** "each chosen when the WORDS heard ahead are known". */
    private static void choiceByWordsHeard() {
        IslandHall x = Check.hall("people 1;may a honest;roads 4;", "road 0;", "road 2;", "road 0 or road 1;");
        for (int s = 0; s < 3; s++) {
            x.question(0, s);
        }
        CHECK.due("road 0 or 2, by what the first told", () -> x.fewest(1), 2);
        CHECK.due("which of the halves is asked first", x::first, 2);
    }

    /** "(one may be asked again)". */
    private static void askedAgain() {
        IslandHall x = Check.hall("people 1;may a honest turner;", "road 0;");
        x.question(0, 0);
        CHECK.due("asked twice an honest one says the same", () -> x.fewest(0), 2);
        CHECK.due("the only one", x::first, 0);
        IslandHall y = Check.hall("people 1;may a honest;roads 2;", "not told 0 or not told 1 or road 0;");
        y.question(0, 0);
        CHECK.due("asked thrice", () -> y.fewest(1), 3);
    }

    /** "behind which, whatever was heard, just one ANSWER is left (or no WORLD)". */
    private static void oneAnswerOrNoWorld() {
        IslandHall none = Check.hall("people 1;roads 2;fact road 3;", "road 0;");
        none.question(0, 0);
        for (int what = 0; what < 4; what++) {
            int w = what;
            CHECK.due("no world fits, answer " + w, () -> none.fewest(w), 0);
        }
        IslandHall x = Check.hall("people 1;may a honest;roads 2;", "not told 0 or road 0;");
        x.question(0, 0);
        CHECK.due("no world says no at first; then it tells the road", () -> x.fewest(1), 2);
        IslandHall y = Check.hall("people 1;may a honest;roads 3;", "road 0;", "road 0 or road 1;");
        y.question(0, 0);
        CHECK.due("one word leaves one road, the other two", () -> y.fewest(1), -1);
        y.question(0, 1);
        CHECK.due("both", () -> y.fewest(1), 2);
        IslandHall free = Check.hall("people 1;may a free;roads 2;", "road 0;");
        free.question(0, 0);
        CHECK.due("whatever a free one says", () -> free.fewest(1), -1);
    }

    /** Words that may be unknown: neither is heard as yes. */
    private static void wordsUnknown() {
        IslandHall x = Check.hall("people 1;may a honest;roads 2;words;", "road 0;", "word 0;", "road 0 and word 0 or road 1 and word 1;");
        x.question(0, 0);
        CHECK.due("the road", () -> x.fewest(1), -1);
        x.question(0, 1);
        // whether word 0 is yes is answered by word 0 whatever is yes
        CHECK.due("the word for yes can't be asked for so", () -> x.fewest(3), -1);
        x.question(0, 2);
        CHECK.due("the road by both", () -> x.fewest(1), 1);
        CHECK.due("the last one", x::first, 2);
        CHECK.due("and the word behind the road", () -> x.fewest(3), 2);
    }

    /** What is asked is an EVENT: of turns and of 'told', with the EVENTS that were ahead. */
    private static void turnsAndTellingsOfTheAsked() {
        IslandHall x = Check.hall("people 2;may a turner;may b honest;roads 2;", "road 0;", "told 0;", "told 1;");
        x.question(0, 0);
        x.question(1, 1);
        CHECK.due("b tells what a was asked", () -> x.fewest(1), 2);
        CHECK.due("behind a", x::first, 0);
        CHECK.due("nothing was asked for all that", () -> x.could(-1, 1), 0);
        x.answers(1, 2, 1);
        CHECK.due("another event is 0 now: b can't tell by it", () -> x.fewest(1), -1);
        x.question(1, 2);
        CHECK.due("but by the next", () -> x.fewest(1), 2);
        IslandHall again = Check.hall("people 2;may a honest;may b free;roads 2;", "road 0;", "told 1;", "told 3;");
        again.question(1, 0);
        again.question(0, 1);
        CHECK.due("b is asked first or second, a at last", () -> again.fewest(1), 3);
        CHECK.due("b is the least", again::first, 0);
        again.says(1, 0);
        again.says(1, 0);
        CHECK.due("a tells what b said second", () -> again.fewest(1), 1);
        CHECK.due("a", again::first, 1);
        IslandHall y = Check.hall("people 1;may a turner;roads 2;fact a says (not told 0);", "road 0;");
        y.question(0, 0);
        CHECK.due("one that begins honest", () -> y.fewest(1), 1);
        y.answers(0, 0, 0);
        CHECK.due("answered, nothing is left to ask", () -> y.fewest(1), 0);
        IslandHall alike = Check.hall("people 1;may a honest turner;fact a says (not told 0);", "road 0;");
        alike.question(0, 0);
        CHECK.due("a turner is honest at first", () -> alike.fewest(0), 2);
        alike.says(0, 0);
        CHECK.due("its turn is taken: one tells", () -> alike.fewest(0), 1);
        IslandHall halves = Check.hall("people 1;may a turner;roads 4;fact a says (not told 0);", "road 0 or road 1;", "road 0;");
        halves.question(0, 0);
        halves.question(0, 1);
        CHECK.due("roads 2 and 3 can't be told, by whatever turn", () -> halves.fewest(1), -1);
    }

    /** "FIRST: the least QUESTION that may be asked first then." */
    private static void firstIsTheLeast() {
        IslandHall x = Check.hall("people 1;may a honest;roads 4;", "road 3;", "road 0 or road 1;", "road 0 or road 2;",
                "road 0 or road 3;");
        for (int s : new int[] {0, 3, 2, 1, 1}) {
            x.question(0, s);
        }
        CHECK.due("two halves", () -> x.fewest(1), 2);
        CHECK.due("question 0 would need three", x::first, 1);
        IslandHall last = Check.hall("people 1;may a honest;roads 2;", "road 3;", "road 1;");
        for (int i = 0; i < 9; i++) {
            last.question(0, 0);
        }
        last.question(0, 1);
        CHECK.due("one of ten", () -> last.fewest(1), 1);
        CHECK.due("the last", last::first, 9);
    }

    /** "HIDDEN is a WORLD that FITS, told by its place among them". */
    private static void hiddenByItsPlace() {
        IslandHall x = Check.hall("people 1;may a honest;roads 4;", "not road 0 and not road 2;", "road 1;", "road 3;");
        x.question(0, 1);
        x.question(0, 2);
        x.says(0, 0);
        CHECK.due("the second of those that fit", () -> x.hide(1, 0) ? 1 : 0, 1);
        CHECK.due("is not road 1", () -> x.reply(0), 1);
        CHECK.due("is road 3", () -> x.reply(1), 0);
        x.back();
        x.back();
        x.back();
        CHECK.due("it stays when others fit", () -> x.reply(1), 0);
        x.back();
        CHECK.due("the second of all", () -> x.hide(1, 0) ? 1 : 0, 1);
        CHECK.due("is road 1", () -> x.reply(0), 0);
        for (int place : new int[] {0, 63, 64, 127}) {
            IslandHall y = Check.hall("people 7;", "b says (a is liar);", "f says (g is liar);");
            y.question(1, 0);
            y.question(5, 1);
            CHECK.due("place " + place, () -> y.hide(place, 0) ? 1 : 0, 1);
            CHECK.due("a there", () -> y.reply(0), 1 - (place >> 6));
            CHECK.due("g there", () -> y.reply(1), 1 - (place & 1));
        }
    }

    /** "it replies to a QUESTION: the WORD", of each KIND, with each WORD for yes. */
    private static void hiddenWordByKind() {
        IslandHall x = Check.hall("people 4;may a honest;may b liar;may c turner;may d dayer;lies 2;words;fact day 2 or day 3;", "road 0;",
                "road 1;");
        for (int who = 0; who < 4; who++) {
            x.question(who, 0);
            x.question(who, 1);
        }
        for (int i = 0; i < 8; i++) {
            int at = i;
            int yes = x.world(at, 18);
            boolean turnerLies = x.world(at, 10) == 1;
            boolean dayOfLies = x.world(at, 17) == 2;
            CHECK.due("hidden " + at, () -> x.hide(at, 3) ? 1 : 0, 1);
            boolean[] lies = {false, true, turnerLies, dayOfLies};
            for (int who = 0; who < 4; who++) {
                int w = who;
                CHECK.due("what is so, of " + who, () -> x.reply(2 * w), lies[w] ? 1 - yes : yes);
                boolean liesThen = who == 2 ? !lies[2] : lies[who];
                CHECK.due("what isn't, of " + who, () -> x.reply(2 * w + 1), liesThen ? yes : 1 - yes);
            }
            for (int e = 0; e < 8; e++) {
                x.back();
            }
        }
    }

    /** "it becomes itself times 1103515245 and 12345 (an int that wraps), bits 16 to 30, MOD 2". */
    private static void seedWraps() {
        int[] seeds = {0, 1, -1, Integer.MAX_VALUE, Integer.MIN_VALUE, 123456789, 65536, 1 << 30};
        String[] due = {"000101110010", "001111010011", "110010010011", "110010010011", "000101110010", "010111110001", "111010001101",
            "000101110010"};
        for (int i = 0; i < seeds.length; i++) {
            IslandHall x = Check.hall("people 1;may a free;words;", "road 0;");
            x.question(0, 0);
            // the word is that number's, whatever is yes
            x.hide(i % 2, seeds[i]);
            for (int e = 0; e < 12; e++) {
                CHECK.due("seed " + seeds[i] + ", reply " + e, () -> x.reply(0), due[i].charAt(e) - '0');
            }
        }
    }

    /** "one that is FREE by a seed": others leave it as it is. */
    private static void seedOfFreeOnesAlone() {
        IslandHall x = Check.hall("people 2;may a free;may b honest;", "road 0;");
        x.question(0, 0);
        x.question(1, 0);
        x.hide(0, 65536);
        String due = "111010001101";
        for (int e = 0; e < 6; e++) {
            CHECK.due("an honest one", () -> x.reply(1), 0);
            CHECK.due("the free one, " + e, () -> x.reply(0), due.charAt(e) - '0');
        }
    }

    /** "that is an EVENT then". */
    private static void replyIsAnEvent() {
        IslandHall x = Check.hall("people 1;roads 2;", "a says (road 0);", "told 0;");
        x.question(0, 0);
        x.hide(3, 0);
        CHECK.due("its word", () -> x.reply(0), 1);
        CHECK.due("an event", () -> x.count(3), 1);
        CHECK.due("that bars", () -> x.can(1), 2);
        CHECK.due("that was told, and so of the liar", () -> x.could(-1, 1), 1);
        CHECK.due("that is not needless", x::needless, 0);
        CHECK.due("that is enough", () -> x.enough(1), 1);
        CHECK.due("that can be taken back", x::back, 0);
        CHECK.due("with what it barred", () -> x.can(1), 3);
    }

    private static IslandHall roadsBarred(int roads) {
        return Check.hall("people 1;may a honest;roads " + roads + ";", "not road 0;", "not road 1;", "not road 2;", "not road 3;");
    }

    /** "fewest SAYINGS (1 or 2)", "NONE: there is none". */
    private static void oneOrTwoSayings() {
        IslandHall one = roadsBarred(1);
        CHECK.due("no saying is no riddle", () -> one.riddle(1), 1);
        CHECK.due("the first that can be said", () -> one.line(0), 1);
        CHECK.due("two roads", () -> roadsBarred(2).riddle(1), 1);
        CHECK.due("three roads", () -> roadsBarred(3).riddle(1), 2);
        CHECK.due("four roads", () -> roadsBarred(4).riddle(1), -1);
        IslandHall none = Check.hall("people 1;");
        CHECK.due("no sentence", () -> none.riddle(1), -1);
        IslandHall nobody = Check.hall("people 0;", "road 0;");
        CHECK.due("nobody", () -> nobody.riddle(1), -1);
    }

    /** SENTENCES and QUESTIONS that are gone, or had a FAULT, are neither told nor asked. */
    private static void sayingsOfSentencesThereAre() {
        String island = "people 2;may a honest;may b honest;roads 2;";
        IslandHall x = Check.hall(island, "road 3 or road 0 or road 1;", "road 0;");
        x.question(0, 1);
        x.question(0, 0);
        CHECK.due("a riddle", () -> x.riddle(1), 1);
        CHECK.due("a question", () -> x.fewest(1), 1);
        Check.island(x, island);
        CHECK.due("no sentence", () -> x.riddle(1), -1);
        CHECK.due("no question", () -> x.fewest(1), -1);
        Check.sentence(x, "road 0 or road 1;");
        CHECK.due("a shorter one is so where it is so", () -> x.could(-1, 0), 2);
        CHECK.due("the other is gone", () -> x.riddle(1), -1);
        CHECK.due("one with a fault", () -> Check.sentence(x, "road 0 foo;"), -2);
        CHECK.due("can't be said", () -> x.riddle(1), -1);
        x.question(0, 0);
        CHECK.due("nor be asked", () -> x.fewest(1), -1);
    }

    /** "fewest SAYINGS" ahead of "the first". */
    private static void fewestSayingsGoFirst() {
        IslandHall x = Check.hall("people 2;may a honest;may b honest;roads 3;", "not road 0;", "not road 1;", "road 2;");
        CHECK.due("one", () -> x.riddle(1), 1);
        CHECK.due("though two would be ahead of it", () -> x.line(0), 2);
        CHECK.throwsNoSuch("no second", () -> x.line(1));
    }

    /** "leave just one ANSWER and some WORLD". */
    private static void someWorldIsLeft() {
        IslandHall x = Check.hall("people 1;may a honest;roads 2;", "road 3;", "road 0 and road 1;", "road 1;");
        CHECK.due("not that nobody can say", () -> x.riddle(1), 1);
        CHECK.due("but that one", () -> x.line(0), 2);
        IslandHall none = Check.hall("people 1;may a honest;roads 2;", "road 3;");
        CHECK.due("nothing that can be said", () -> none.riddle(1), -1);
        IslandHall pair = Check.hall("people 1;may a honest;roads 4;", "road 0 or road 1;", "road 2 or road 3;", "road 1 or road 2;");
        CHECK.due("two", () -> pair.riddle(1), 2);
        CHECK.due("not those that can't both be", () -> pair.line(0), 0);
        CHECK.due("but these", () -> pair.line(1), 2);
    }

    /** "told behind all EVENTS". */
    private static void toldBehindAllEvents() {
        IslandHall x = Check.hall("people 1;may a turner;roads 2;fact a says (not told 0);", "road 0;");
        CHECK.due("the truth", () -> x.riddle(1), 1);
        IslandHall y = Check.hall("people 2;may a turner;may b free;roads 3;fact a says (not told 0);", "road 0 or road 1;", "told 0;",
                "not told 1 and road 0;");
        y.says(0, 1);
        CHECK.due("nothing told is no truth", () -> y.worlds(1), 0);
        y.back();
        y.answers(0, 0, 0);
        CHECK.due("two roads", () -> y.told(1), 2);
        CHECK.due("a lie now", () -> y.riddle(1), 1);
        CHECK.due("that it isn't road 0", () -> y.line(0), 2);
        CHECK.due("no event came", () -> y.count(3), 1);
        IslandHall lie = Check.hall("people 1;may a turner;roads 3;fact a says (not told 0);", "road 0 or road 1 or road 2;",
                "road 0 or road 1;");
        lie.says(0, 0);
        CHECK.due("the turn is taken", () -> lie.riddle(1), 1);
        CHECK.due("so the lie leaves one", () -> lie.line(0), 1);
        IslandHall z = Check.hall("people 2;may a honest;may b free;roads 4;", "told 1 and told 2;", "road 0 or road 1;",
                "told 3 and road 0;");
        z.says(1, 0);
        z.says(1, 1);
        z.says(1, 0);
        CHECK.due("a says 1 and then of that", () -> z.riddle(1), 2);
        CHECK.due("the fourth event is told by the fifth: 1", () -> z.line(0), 1);
        CHECK.due("and 2", () -> z.line(1), 2);
    }

    /** SAYINGS "told behind all EVENTS": the second also behind the first, whose turn is taken and which was told. */
    private static void secondBehindTheFirst() {
        String turner = "people 2;may a turner;may b honest;roads 4;fact a says (not told 0);";
        IslandHall x = Check.hall(turner, "not road 0;", "a says (not road 3);");
        // behind a's truth it would lie next, and so say of road 3 alone that it isn't
        CHECK.due("two", () -> x.riddle(1), 2);
        CHECK.due("a's", () -> x.line(0), 0);
        CHECK.due("b's, by a's next turn", () -> x.line(1), 31);
        IslandHall both = Check.hall(turner, "not road 0;", "a says (not road 3) and b says (not told 0 or not told 5);");
        CHECK.due("two, where b is told of, too", () -> both.riddle(1), 2);
        CHECK.due("b's, by a's next turn still", () -> both.line(1), 31);
        IslandHall y = Check.hall("people 1;may a turner;roads 4;fact a says (not told 0);", "not road 3;", "road 0 or road 1;");
        CHECK.due("two of a turner", () -> y.riddle(1), 2);
        CHECK.due("the truth", () -> y.line(0), 0);
        CHECK.due("and a lie", () -> y.line(1), 1);
        IslandHall z = Check.hall("people 1;may a turner;roads 4;fact a says (not told 0);", "road 0 or road 1;", "not road 3;",
                "road 1 or road 0;");
        CHECK.due("two, not with the first", () -> z.riddle(1), 2);
        CHECK.due("the truth still", () -> z.line(0), 1);
        CHECK.due("and a lie still", () -> z.line(1), 2);
    }

    /** "of like ones the first as a row of PEOPLE and SENTENCES". */
    private static void firstRowOfSayings() {
        IslandHall x = Check.hall("people 3;may a free;may b honest;may c honest;roads 2;", "road 1 or road 0;", "road 1;", "road 0;");
        CHECK.due("one", () -> x.riddle(1), 1);
        CHECK.due("of b, not of c", () -> x.line(0), 31);
        IslandHall y = Check.hall("people 2;may a honest;may b honest;roads 3;", "road 0 or road 1 or road 2;", "not road 0;",
                "not road 1;", "not road 2;");
        CHECK.due("two", () -> y.riddle(1), 2);
        CHECK.due("the first", () -> y.line(0), 1);
        CHECK.due("its second is of a, not of b", () -> y.line(1), 2);
        IslandHall z = Check.hall("people 2;may a free;may b honest;roads 3;", "not road 0;", "not road 1;");
        CHECK.due("two of b", () -> z.riddle(1), 2);
        CHECK.due("the first of b", () -> z.line(0), 30);
        CHECK.due("the second of b", () -> z.line(1), 31);
        IslandHall w = Check.hall("people 2;may a honest;may b liar;lies 0;", "day 0 or day 1;", "day 0 or day 1 or day 2;");
        CHECK.due("two of both", () -> w.riddle(2), 2);
        CHECK.due("a's", () -> w.line(0), 1);
        CHECK.due("b's least", () -> w.line(1), 30);
    }

    /** "the first SAYING's number is not above the second's". */
    private static void firstNotAboveSecond() {
        IslandHall above = Check.hall("people 1;may a honest;roads 3;", "told 0 and road 0;", "road 0 or road 1;");
        CHECK.due("1 and 0 would tell", () -> above.riddle(1), -1);
        above.says(0, 1);
        CHECK.due("they do", () -> above.riddle(1), 1);
        IslandHall below = Check.hall("people 1;may a honest;roads 3;", "road 0 or road 1;", "told 0 and road 0;");
        CHECK.due("0 and 1 tell", () -> below.riddle(1), 2);
        CHECK.due("0", () -> below.line(0), 0);
        CHECK.due("1", () -> below.line(1), 1);
        IslandHall later = Check.hall("people 1;may a honest;roads 3;", "road 0 or road 1;", "told 0 and road 0 and not told 5;");
        CHECK.due("0 and 1 tell, where another is told of, too", () -> later.riddle(1), 2);
        IslandHall same = Check.hall("people 1;may a honest;roads 3;", "told 0 and road 0 or not told 0 and not road 2;");
        CHECK.due("one and the same twice", () -> same.riddle(1), 2);
        CHECK.due("is not above itself", () -> same.line(1), same.line(0));
        IslandHall others = Check.hall("people 2;may a honest;may b free;roads 3;", "told 0 and road 0;", "road 0 or road 1;");
        CHECK.due("b's number is above all of a", () -> others.riddle(1), -1);
    }

    /** "(each as 30 times the one and the other)", at its greatest. */
    private static void thirtyTimesTheOne() {
        StringBuilder s = new StringBuilder("people 7;may g honest;roads 2;");
        for (char name = 'a'; name < 'g'; name++) {
            s.append("may ").append(name).append(" free;");
        }
        IslandHall x = Check.hall(s.toString());
        for (int i = 0; i < 29; i++) {
            Check.sentence(x, "road 0 or road 1;");
        }
        Check.sentence(x, "road 1;");
        CHECK.due("one", () -> x.riddle(1), 1);
        CHECK.due("of g, the last", () -> x.line(0), 6 * 30 + 29);
        CHECK.due("a question likewise", () -> x.question(6, 29), 0);
        x.hide(1, 0);
        CHECK.due("g replies by it", () -> x.reply(0), 0);
        CHECK.due("which tells the road", () -> x.can(1), 2);
    }

    // ---- Promises 20 to 22 ----

    /** question: no such one, no such SENTENCE. */
    private static void questionOfNobodyOrNothing() {
        IslandHall x = Check.hall("people 2;", "a is liar;", "b is liar;");
        CHECK.due("the last of both", () -> x.question(1, 1), 0);
        for (int bad : new int[] {Integer.MIN_VALUE, -1, 2, Integer.MAX_VALUE}) {
            CHECK.throwsNoSuch("question " + bad + " 0", () -> x.question(bad, 0));
            CHECK.throwsNoSuch("question 0 " + bad, () -> x.question(0, bad));
        }
        CHECK.due("none came", () -> x.count(4), 1);
        CHECK.due("the next number", () -> x.question(0, 0), 1);
    }

    /** question: "NONE: there are 10". */
    private static void questionRefusesTheEleventh() {
        IslandHall x = Check.hall("people 1;may a honest;roads 2;", "road 0;", "road 3;");
        for (int i = 0; i < 10; i++) {
            x.question(0, 1);
        }
        CHECK.due("the eleventh", () -> x.question(0, 0), -1);
        CHECK.due("ten", () -> x.count(4), 10);
        CHECK.due("it isn't among them", () -> x.fewest(1), -1);
        CHECK.throwsNoSuch("nor has it a number", () -> x.reply(10));
        x.hide(0, 0);
        CHECK.due("the last is as it was", () -> x.reply(9), 1);
        CHECK.due("the first is as it was", () -> x.reply(0), 1);
    }

    /** fewest: "NoSuchElementException: another ANSWER". */
    private static void fewestOfWhat() {
        IslandHall x = Check.hall("people 2;may a honest;roads 2;lies 0;words;fact day 1 or day 2;", "b is liar;", "road 0;",
                "day 1 and word 0 or day 2 and word 1;", "road 0 and word 0 or road 1 and word 1;",
                "b is liar and word 0 or b is honest and word 1;");
        x.question(0, 2);
        x.question(0, 3);
        x.question(0, 4);
        CHECK.due("who", () -> x.fewest(0), 1);
        CHECK.due("by the last", x::first, 2);
        CHECK.due("road", () -> x.fewest(1), 1);
        CHECK.due("by the second", x::first, 1);
        CHECK.due("day", () -> x.fewest(2), 1);
        CHECK.due("by the first", x::first, 0);
        CHECK.due("word", () -> x.fewest(3), -1);
        x.question(0, 1);
        CHECK.due("word, with the road asked", () -> x.fewest(3), 2);
        CHECK.throwsNoSuch("fewest 4", () -> x.fewest(4));
        for (int what : FAR) {
            CHECK.throwsNoSuch("fewest " + what, () -> x.fewest(what));
        }
        CHECK.due("first stays", x::first, 1);
        IslandHall many = Check.hall("people 7;");
        CHECK.throwsNoSuch("another answer of too many worlds", () -> many.fewest(4));
    }

    /** fewest: "FIRST is kept"; first: "FIRST by the latest fewest() that kept one; NONE". */
    private static void fewestKeepsFirst() {
        IslandHall x = Check.hall("people 2;may a honest;roads 2;", "road 0;", "b is liar;");
        CHECK.due("none yet", x::first, -1);
        x.question(0, 0);
        x.question(0, 1);
        CHECK.due("asked for nothing, none", x::first, -1);
        x.fewest(0);
        CHECK.due("who", x::first, 1);
        x.fewest(1);
        CHECK.due("the latest: road", x::first, 0);
        x.says(0, 0);
        x.question(0, 0);
        Check.sentence(x, "road 1;");
        x.hide(0, 0);
        x.reply(0);
        x.riddle(0);
        x.back();
        CHECK.due("other calls leave it", x::first, 0);
    }

    /** "(NONE of 0)". */
    private static void fewestKeepsNoneOfNone() {
        IslandHall x = Check.hall("people 1;may a honest;roads 2;", "road 0;");
        x.question(0, 0);
        x.fewest(1);
        CHECK.due("first", x::first, 0);
        CHECK.due("nothing need be asked", () -> x.fewest(0), 0);
        CHECK.due("none is kept", x::first, -1);
        x.fewest(1);
        CHECK.due("first again", x::first, 0);
        x.says(0, 0);
        CHECK.due("the road is told", () -> x.fewest(1), 0);
        CHECK.due("none again", x::first, -1);
    }

    /** "NONE: three are too few .. (of both what is kept stays)". */
    private static void fewestOfTooFewKeepsWhatWas() {
        IslandHall x = Check.hall("people 2;may a honest;roads 2;", "road 3;", "road 0;");
        x.question(0, 0);
        x.question(0, 1);
        x.fewest(1);
        CHECK.due("first", x::first, 1);
        CHECK.due("who can't be told", () -> x.fewest(0), -1);
        CHECK.due("stays", x::first, 1);
    }

    /** "-2 .. (of both what is kept stays)". */
    private static void fewestOfTooManyKeepsWhatWas() {
        IslandHall x = Check.hall("people 6;may a honest;roads 4;", "road 3;", "road 0 or road 1;", "road 0 or road 2;");
        for (int s = 0; s < 3; s++) {
            x.question(0, s);
        }
        x.says(0, 1);
        CHECK.due("worlds", () -> x.worlds(1), 64);
        CHECK.due("one", () -> x.fewest(1), 1);
        CHECK.due("first", x::first, 2);
        x.back();
        CHECK.due("worlds", () -> x.worlds(1), 128);
        CHECK.due("too many", () -> x.fewest(1), -2);
        CHECK.due("stays", x::first, 2);
    }

    /** What might be asked is not asked. */
    private static void fewestChangesNothingElse() {
        IslandHall x = Check.hall("people 2;may a turner;may b free honest;roads 2;", "road 0;", "told 0;", "a says (told 1);");
        for (int s = 0; s < 3; s++) {
            x.question(0, s);
            x.question(1, s);
        }
        x.says(1, 2);
        x.riddle(1);
        CHECK.due("can't be told", () -> x.fewest(0), -1);
        String before = Check.sight(x);
        for (int i = 0; i < 5; i++) {
            CHECK.due("can't be told again", () -> x.fewest(0), -1);
        }
        CHECK.same("fewest", x, before);
    }

    // ---- Promises 23 and 24 ----

    /** hide: "False: there is none such (what was HIDDEN stays)". */
    private static void hideRefuses() {
        IslandHall x = Check.hall("people 1;may a free;roads 2;", "road 0;");
        x.question(0, 0);
        for (int i : new int[] {Integer.MIN_VALUE, -1, 2, Integer.MAX_VALUE}) {
            CHECK.due("no world " + i, () -> x.hide(i, 7) ? 1 : 0, 0);
            CHECK.due("nothing is hidden", () -> x.count(7), 0);
        }
        CHECK.due("the last", () -> x.hide(1, 65536) ? 1 : 0, 1);
        CHECK.due("hidden", () -> x.count(7), 1);
        CHECK.due("the first word", () -> x.reply(0), 1);
        CHECK.due("no world 2", () -> x.hide(2, 0) ? 1 : 0, 0);
        CHECK.due("no world -1", () -> x.hide(-1, 0) ? 1 : 0, 0);
        CHECK.due("still hidden", () -> x.count(7), 1);
        // by the seed 0 they would be 0, 0, 0
        CHECK.due("the second word of its seed", () -> x.reply(0), 1);
        CHECK.due("the third", () -> x.reply(0), 1);
        IslandHall y = Check.hall("people 1;may a honest;roads 2;", "road 0;", "road 3;");
        y.question(0, 0);
        y.hide(1, 0);
        y.says(0, 1);
        CHECK.due("nothing fits", () -> y.hide(0, 0) ? 1 : 0, 0);
        CHECK.due("road 1 stays hidden", () -> y.reply(0), 1);
    }

    /** hide: "The i-th WORLD that FITS is HIDDEN, with a seed: true", in place of another. */
    private static void hideAnew() {
        IslandHall x = Check.hall("people 2;may a honest;may b free;roads 2;", "road 0;");
        x.question(0, 0);
        x.question(1, 0);
        CHECK.due("the first", () -> x.hide(0, 0) ? 1 : 0, 1);
        CHECK.due("yes", () -> x.reply(0), 0);
        CHECK.due("seed 0", () -> x.reply(1), 0);
        x.back();
        x.back();
        CHECK.due("the second", () -> x.hide(1, 65536) ? 1 : 0, 1);
        CHECK.due("no", () -> x.reply(0), 1);
        CHECK.due("seed 65536", () -> x.reply(1), 1);
        CHECK.due("one is hidden", () -> x.count(7), 1);
    }

    /** reply: "NONE: .. nothing is HIDDEN". */
    private static void replyOfNothingHidden() {
        IslandHall x = Check.hall("people 1;", "road 0;");
        x.question(0, 0);
        CHECK.due("none", () -> x.reply(0), -1);
        CHECK.due("no event", () -> x.count(3), 0);
        x.hide(0, 0);
        CHECK.due("hidden now", () -> x.reply(0), 0);
        CHECK.due("a new island", () -> Check.island(x, "people 1;"), 0);
        Check.sentence(x, "road 0;");
        x.question(0, 0);
        CHECK.due("none again", () -> x.reply(0), -1);
    }

    /** reply: "NONE: there are 12 EVENTS". */
    private static void replyRefusesTheThirteenth() {
        IslandHall x = Check.hall("people 1;may a free;", "road 0;");
        x.question(0, 0);
        x.hide(0, 65536);
        for (int i = 0; i < 11; i++) {
            x.says(0, 0);
        }
        CHECK.due("the twelfth", () -> x.reply(0), 1);
        CHECK.due("twelve", () -> x.count(3), 12);
        for (int i = 0; i < 2; i++) {
            CHECK.due("the thirteenth", () -> x.reply(0), -1);
        }
        CHECK.due("twelve still", () -> x.count(3), 12);
        x.back();
        x.back();
        x.back();
        // 1, 1, 1, 0: those that were refused took nothing from the seed
        CHECK.due("second", () -> x.reply(0), 1);
        CHECK.due("third", () -> x.reply(0), 1);
        CHECK.due("fourth", () -> x.reply(0), 0);
    }

    /** reply: "NoSuchElementException (ahead): no such QUESTION". */
    private static void replyOfNoQuestion() {
        IslandHall x = Check.hall("people 1;may a free;", "road 0;");
        CHECK.throwsNoSuch("no question, nothing hidden", () -> x.reply(0));
        x.question(0, 0);
        x.question(0, 0);
        CHECK.throwsNoSuch("no third, nothing hidden", () -> x.reply(2));
        x.hide(0, 65536);
        CHECK.due("the last", () -> x.reply(1), 1);
        for (int q : new int[] {Integer.MIN_VALUE, -1, 2, 9, 10, Integer.MAX_VALUE}) {
            CHECK.throwsNoSuch("reply " + q, () -> x.reply(q));
        }
        CHECK.due("no event came", () -> x.count(3), 1);
        for (int i = 1; i < 12; i++) {
            x.says(0, 0);
        }
        CHECK.throwsNoSuch("no third, twelve events", () -> x.reply(2));
        CHECK.throwsNoSuch("none below, twelve events", () -> x.reply(-1));
    }

    // ---- Promises 25 and 26 ----

    /** riddle: "NoSuchElementException: another ANSWER". */
    private static void riddleOfWhat() {
        IslandHall x = Check.hall("people 2;may a honest;roads 2;lies 0;words;fact day 1 or day 2;", "b is liar;", "road 0;", "day 2;",
                "word 1;");
        for (int what = 0; what < 4; what++) {
            int w = what;
            CHECK.due("riddle " + w, () -> x.riddle(w), 1);
            CHECK.due("its line", () -> x.line(0), w);
        }
        CHECK.throwsNoSuch("riddle 4", () -> x.riddle(4));
        for (int what : FAR) {
            CHECK.throwsNoSuch("riddle " + what, () -> x.riddle(what));
        }
        CHECK.due("the last stays", () -> x.line(0), 3);
        for (int i = 0; i < 12; i++) {
            x.says(0, 3);
        }
        CHECK.throwsNoSuch("another answer behind twelve events", () -> x.riddle(4));
        IslandHall many = Check.hall("people 7;roads 4;");
        CHECK.throwsNoSuch("another answer of too many worlds", () -> many.riddle(-1));
    }

    /** riddle: "NONE: .. fewer than two EVENTS more can be .. (what is kept stays ..)". */
    private static void riddleNeedsTwoEvents() {
        IslandHall x = Check.hall("people 2;may a honest;may b free;roads 2;", "road 0 or road 1;", "road 0;", "road 1;");
        for (int i = 0; i < 10; i++) {
            CHECK.due("with " + i + " events", () -> x.riddle(1), 1);
            x.says(1, 0);
        }
        CHECK.due("with ten events", () -> x.riddle(1), 1);
        CHECK.due("its line", () -> x.line(0), 1);
        x.says(1, 0);
        CHECK.due("with eleven, though one saying would do", () -> x.riddle(1), -1);
        CHECK.due("stays", () -> x.line(0), 1);
        x.says(1, 0);
        CHECK.due("with twelve", () -> x.riddle(1), -1);
        CHECK.due("stays still", () -> x.line(0), 1);
        x.back();
        x.back();
        CHECK.due("with ten again", () -> x.riddle(1), 1);
    }

    /** riddle: "-2: more than 300 WORLDS FIT". */
    private static void riddleOfThreeHundred() {
        String wide = "people 2;may a honest liar;may b honest liar dayer;roads 4;lies 0;words;fact not day 0 or road 3";
        IslandHall just = Check.hall(wide + ";", "a says (word 0);", "road 0;");
        CHECK.due("three hundred", () -> just.worlds(1), 300);
        CHECK.due("are not too many", () -> just.riddle(3), 1);
        IslandHall more = Check.hall(wide + " or road 0 and a is honest and b is dayer and word 1;", "a says (word 0);", "a is liar;",
                "b is liar;");
        CHECK.due("one more", () -> more.worlds(1), 301);
        for (int what = 0; what < 4; what++) {
            int w = what;
            CHECK.due("is too many, answer " + w, () -> more.riddle(w), -2);
        }
        more.says(0, 2);
        CHECK.due("fewer", () -> more.worlds(1) <= 300 ? 1 : 0, 1);
        CHECK.due("those that fit count, not those that keep facts", () -> more.riddle(3), 1);
        // a is the first of the row, so the worlds in which it is a liar are the last 128
        IslandHall late = Check.hall("people 7;may g honest;roads 4;", "a is liar and road 2;");
        CHECK.due("worlds", () -> late.worlds(1), 256);
        CHECK.due("one", () -> late.riddle(1), 1);
        CHECK.due("of g", () -> late.line(0), 180);
    }

    /** riddle: "NONE: there is none .. (what is kept stays ..)". */
    private static void riddleOfNoneKeepsWhatWas() {
        // nothing that is said parts an honest one from a dayer, if there are no days of lies
        IslandHall x = Check.hall("people 2;may a honest;may b honest dayer;roads 3;", "not road 0;", "not road 1;", "road 3;");
        CHECK.due("two", () -> x.riddle(1), 2);
        CHECK.due("who can't be told", () -> x.riddle(0), -1);
        CHECK.due("stays", () -> x.line(0), 0);
        CHECK.due("stays, both", () -> x.line(1), 1);
        x.says(0, 2);
        CHECK.due("nothing fits", () -> x.riddle(1), -1);
        CHECK.due("stays still", () -> x.line(1), 1);
        x.back();
        CHECK.due("the day", () -> x.riddle(2), 1);
        CHECK.due("its line", () -> x.line(0), 0);
        CHECK.throwsNoSuch("nothing of the one before", () -> x.line(1));
        IslandHall none = Check.hall("people 1;may a honest dayer;", "road 0;");
        CHECK.due("none", () -> none.riddle(0), -1);
        CHECK.throwsNoSuch("none is kept", () -> none.line(0));
    }

    /** riddle: "-2 .. (what is kept stays of both)". */
    private static void riddleOfTooManyKeepsWhatWas() {
        IslandHall x = Check.hall("people 7;may a honest;roads 4;words;", "not road 0;", "not road 1;", "road 2 or road 3;");
        x.says(0, 2);
        CHECK.due("worlds", () -> x.worlds(1), 256);
        CHECK.due("none tells of both", () -> x.riddle(1), -1);
        Check.sentence(x, "not road 3;");
        CHECK.due("one", () -> x.riddle(1), 1);
        CHECK.due("its line", () -> x.line(0), 3);
        x.back();
        CHECK.due("worlds", () -> x.worlds(1), 512);
        CHECK.due("too many", () -> x.riddle(1), -2);
        CHECK.due("stays", () -> x.line(0), 3);
        CHECK.throwsNoSuch("and no more", () -> x.line(1));
    }

    /** What might be told is not told. */
    private static void riddleChangesNothingElse() {
        IslandHall x = Check.hall("people 2;may a turner;may b free honest;roads 2;", "a says (road 0);", "told 0;", "a says (told 1);");
        x.question(0, 0);
        x.says(1, 2);
        x.fewest(1);
        x.riddle(1);
        String before = Check.sight(x);
        for (int i = 0; i < 5; i++) {
            x.riddle(1);
        }
        CHECK.same("riddle", x, before);
    }

    /** line: "NoSuchElementException: there is none". */
    private static void lineOfWhich() {
        IslandHall x = roadsBarred(3);
        CHECK.throwsNoSuch("none is kept", () -> x.line(0));
        CHECK.due("two", () -> x.riddle(1), 2);
        CHECK.due("line 0", () -> x.line(0), 0);
        CHECK.due("line 1", () -> x.line(1), 1);
        CHECK.throwsNoSuch("line 2", () -> x.line(2));
        for (int i : FAR) {
            CHECK.throwsNoSuch("line " + i, () -> x.line(i));
        }
        IslandHall y = roadsBarred(2);
        CHECK.due("one", () -> y.riddle(1), 1);
        CHECK.due("line 0 of one", () -> y.line(0), 0);
        CHECK.throwsNoSuch("line 1 of one", () -> y.line(1));
    }
}
