import java.util.ArrayList;
import java.util.List;

/** Each sentence behind "==== 2." and of promises 8 to 19 that names an edge. */
public final class EventEdgesTest {
    private static final Check CHECK = new Check();
    private static final int[] FAR = {Integer.MIN_VALUE, -1, Integer.MAX_VALUE};

    public static void main(String[] args) {
        twelveEvents();
        honestAndLiarByKind();
        turnersByEventsAhead();
        turnsOfOthersDoNotCount();
        dayersByDay();
        answersByWord();
        freeOnesDoEither();
        factsAndEventsTogether();
        kindsAndAs();
        toldAheadOnly();
        toldAsItWasThen();
        toldIsTheSentenceNotTheAnswer();
        toldBeyondTwelve();
        saysAsTheNextEvent();
        saysWithinSays();
        answersToWho();
        leftOutCountsInTurns();
        leftOutIsStillTold();
        leftOutBarsNoWorld();
        needlessAlone();
        enoughIsFewest();
        enoughOfLikeOnesTheFirst();
        enoughOfNoneAndOfAll();
        enoughWhereNothingFits();
        knotsAreLeast();
        knotsKeepFacts();
        knotsByNumberThenFirst();
        knotOfAllAndOfNone();
        mostKnots();
        noWorldFits();
        saysOfNobodyOrNothing();
        saysRefusesTheThirteenth();
        answersOfNobodyNothingOrNoWord();
        answersRefusesTheThirteenth();
        backToNone();
        backTakesAllOfIt();
        worldsOfWhat();
        worldsInTheirOrder();
        worldOfWhich();
        worldOfWhat();
        worldOfTurnersAtFirst();
        toldOfWhat();
        canOfWhat();
        couldOfWhom();
        enoughOfWhat();
        knotOfWhich();
        CHECK.end();
    }

    // ---- behind "==== 2." ----

    /** "EVENTS 0, 1 .. (at most 12)". */
    private static void twelveEvents() {
        IslandHall x = Check.hall("people 2;may a free;", "road 0;");
        for (int i = 0; i < 12; i++) {
            int due = i;
            CHECK.due("event " + i, () -> due % 2 == 0 ? x.says(0, 0) : x.answers(0, 0, 1), due);
            CHECK.due("so many", () -> x.count(3), due + 1);
        }
        CHECK.due("the 13th", () -> x.says(0, 0), -1);
        CHECK.due("twelve", () -> x.count(3), 12);
        CHECK.due("one less", x::back, 11);
        CHECK.due("room for one", () -> x.answers(0, 0, 0), 11);
        CHECK.due("and no more", () -> x.answers(0, 0, 0), -1);
    }

    /** "SAYS: the SENTENCE must be so of one that is HONEST, not so of one that is a LIAR then." */
    private static void honestAndLiarByKind() {
        IslandHall x = Check.hall("people 1;roads 2;", "road 0;");
        x.says(0, 0);
        CHECK.due("two worlds", () -> x.worlds(1), 2);
        CHECK.due("honest", () -> x.world(0, 0), 0);
        CHECK.due("so", () -> x.world(0, 16), 0);
        CHECK.due("a liar", () -> x.world(1, 0), 1);
        CHECK.due("not so", () -> x.world(1, 16), 1);
        x.says(0, 0);
        CHECK.due("as often as they like", () -> x.worlds(1), 2);
    }

    /** "a TURNER by how many EVENTS of it are ahead": says, answers and replies, up to the twelfth. */
    private static void turnersByEventsAhead() {
        IslandHall x = Check.hall("people 1;may a turner;", "road 0;", "not road 0;");
        x.question(0, 0);
        CHECK.due("the one that begins as a liar", () -> x.hide(1, 0) ? 1 : 0, 1);
        for (int i = 0; i < 12; i++) {
            boolean lies = i % 2 == 0;
            CHECK.due("could say it at event " + i, () -> x.could(0, 0), i == 0 || !lies ? 1 : 0);
            switch (i % 3) {
                case 0:
                    x.says(0, lies ? 1 : 0);
                    break;
                case 1:
                    x.answers(0, 0, lies ? 1 : 0);
                    break;
                default:
                    CHECK.due("reply at event " + i, () -> x.reply(0), lies ? 1 : 0);
                    break;
            }
            CHECK.due("one fits behind event " + i, () -> x.worlds(1), 1);
            CHECK.due("a liar at first", () -> x.world(0, 8), 1);
        }
    }

    /** "EVENTS of it": another's are no turns. */
    private static void turnsOfOthersDoNotCount() {
        IslandHall x = Check.hall("people 3;may a turner;may b turner;may c free;fact a says (road 0) and b says (road 0);",
                "road 0;");
        x.says(2, 0);
        CHECK.due("a could still", () -> x.could(0, 0), 1);
        x.says(1, 0);
        CHECK.due("a could still, behind b", () -> x.could(0, 0), 1);
        CHECK.due("b couldn't", () -> x.could(1, 0), 0);
        x.says(0, 0);
        CHECK.due("a couldn't now", () -> x.could(0, 0), 0);
        x.back();
        x.back();
        CHECK.due("b could again", () -> x.could(1, 0), 1);
        CHECK.due("and a could", () -> x.could(0, 0), 1);
    }

    /** "3 DAYER (a LIAR on the days of lies, else HONEST)", at the first and the last DAY. */
    private static void dayersByDay() {
        IslandHall x = Check.hall("people 1;may a dayer;lies 0 6;", "road 0;", "road 1;");
        x.says(0, 0);
        CHECK.due("honest on the others", () -> x.can(2), 0b0111110);
        x.back();
        x.says(0, 1);
        CHECK.due("a liar on both", () -> x.can(2), 0b1000001);
        x.says(0, 1);
        CHECK.due("no turns", () -> x.can(2), 0b1000001);
    }

    /** "ANSWERS: yes, if it is so, of one that is HONEST; no, if it is so, of one that is a LIAR." */
    private static void answersByWord() {
        for (int word = 0; word < 2; word++) {
            IslandHall x = Check.hall("people 1;roads 2;words;", "road 0;");
            int w = word;
            CHECK.due("answers " + w, () -> x.answers(0, 0, w), 0);
            CHECK.due("half of them", () -> x.worlds(1), 4);
            for (int i = 0; i < 4; i++) {
                int at = i;
                boolean liar = x.world(at, 0) == 1;
                boolean so = x.world(at, 16) == 0;
                CHECK.due("the word for it in world " + at, () -> x.world(at, 18), liar != so ? w : 1 - w);
            }
        }
        IslandHall y = Check.hall("people 1;may a honest;roads 2;", "road 0;");
        y.answers(0, 0, 0);
        CHECK.due("word 0 is yes, without words", () -> y.can(1), 1);
        y.back();
        y.answers(0, 0, 1);
        CHECK.due("word 1 is no", () -> y.can(1), 2);
    }

    /** "FREE ones do either." */
    private static void freeOnesDoEither() {
        IslandHall x = Check.hall("people 1;may a free;", "road 0;", "road 1;");
        x.says(0, 0);
        x.says(0, 1);
        x.answers(0, 0, 0);
        x.answers(0, 0, 1);
        CHECK.due("fits all", () -> x.worlds(1), 1);
        CHECK.due("all needless", x::needless, 15);
        for (int n = 2; n <= 7; n++) {
            StringBuilder s = new StringBuilder("people " + n + ";may a liar;");
            for (int p = 1; p < n; p++) {
                s.append("may ").append((char) ('a' + p)).append(" free;");
            }
            IslandHall others = Check.hall(s.toString(), "road 0;");
            int last = n - 1;
            CHECK.due("a liar doesn't, among " + n, () -> others.could(0, 0), 0);
            others.answers(0, 0, 1);
            CHECK.due("nor behind an event", () -> others.could(0, 0), 0);
            CHECK.due("a free one does", () -> others.could(last, 0), 1);
        }
    }

    /** "WORLDS that FIT: all FACTS, all EVENTS." */
    private static void factsAndEventsTogether() {
        IslandHall x = Check.hall("people 2;roads 2;fact road 0 or a is liar;", "b is liar;", "road 1;");
        CHECK.due("facts", () -> x.worlds(0), 6);
        CHECK.due("no event: facts alone", () -> x.worlds(1), 6);
        x.says(0, 0);
        CHECK.due("one event", () -> x.worlds(1), 3);
        x.says(1, 1);
        CHECK.due("both", () -> x.worlds(1), 2);
        CHECK.due("facts are as they were", () -> x.worlds(0), 6);
    }

    /** "'as': both are of one KIND"; "'many': how many are of a KIND". */
    private static void kindsAndAs() {
        IslandHall x = Check.hall("people 2;may a turner dayer;may b turner free;", "a as b;", "a as a;", "many turner=2;",
                "many turner=1;", "a is turner;");
        CHECK.due("worlds", () -> x.worlds(0), 9);
        CHECK.due("turners are of one kind, however they begin", () -> x.could(-1, 0), 4);
        CHECK.due("one is as itself", () -> x.could(-1, 1), 9);
        CHECK.due("both are turners", () -> x.could(-1, 2), 4);
        CHECK.due("one is", () -> x.could(-1, 3), 4);
        CHECK.due("a is", () -> x.could(-1, 4), 6);
        IslandHall seven = Check.hall("people 7;fact many liar=1;");
        for (int i = 0; i < 28; i++) {
            int one = i % 7;
            int other = (i * 3 + 1) % 7;
            Check.sentence(seven, (char) ('a' + one) + " as " + (char) ('a' + other) + ";");
            int at = i;
            CHECK.due("one and another of seven", () -> seven.could(-1, at), one == other ? 7 : 5);
        }
    }

    /** "'told' k: the SENTENCE of EVENT k .. (not so, if there was no such one ahead)". */
    private static void toldAheadOnly() {
        IslandHall x = Check.hall("people 1;may a honest;", "told 0;", "not told 0;", "told 1;", "road 0;");
        CHECK.due("nothing yet", () -> x.could(-1, 0), 0);
        x.says(0, 0);
        CHECK.due("an event is not ahead of itself", () -> x.worlds(1), 0);
        x.back();
        x.says(0, 1);
        CHECK.due("so that it isn't told is so", () -> x.worlds(1), 1);
        CHECK.due("and then it was told", () -> x.could(-1, 0), 1);
        CHECK.due("the next is not there", () -> x.could(-1, 2), 0);
        x.says(0, 3);
        CHECK.due("the next is there", () -> x.could(-1, 2), 1);
        x.back();
        CHECK.due("taken back it is not", () -> x.could(-1, 2), 0);
    }

    /** "as it was then". */
    private static void toldAsItWasThen() {
        IslandHall x = Check.hall("people 1;may a turner;", "a says (road 0);", "told 0;", "not told 1 and road 0;", "told 1;");
        x.says(0, 0);
        CHECK.due("so of the one that begins honest", () -> x.could(-1, 1), 1);
        CHECK.due("now of the other", () -> x.could(-1, 0), 1);
        x.says(0, 2);
        CHECK.due("only the other could say that", () -> x.worlds(1), 1);
        CHECK.due("nothing had been told at 1 then, so it was so", () -> x.could(-1, 3), 1);
        IslandHall y = Check.hall("people 2;may a turner;may b honest;fact a says (road 0);", "a says (road 0);", "told 0;");
        y.says(1, 0);
        y.says(0, 0);
        y.says(1, 1);
        CHECK.due("b tells what was so, though it isn't any more", () -> y.worlds(1), 1);
        CHECK.due("it isn't any more", () -> y.could(-1, 0), 0);
    }

    /** "the SENTENCE of EVENT k": not what was answered. */
    private static void toldIsTheSentenceNotTheAnswer() {
        IslandHall x = Check.hall("people 1;may a liar;", "road 0;", "told 0;", "road 1;", "told 1;");
        x.answers(0, 0, 1);
        CHECK.due("a liar's no", () -> x.worlds(1), 1);
        CHECK.due("the sentence is so", () -> x.could(-1, 1), 1);
        x.says(0, 2);
        CHECK.due("a liar's saying", () -> x.worlds(1), 1);
        CHECK.due("the sentence is not so", () -> x.could(-1, 3), 0);
    }

    /** "other NUMBERS 0 to 99" and "at most 12": what can't have been is not so. */
    private static void toldBeyondTwelve() {
        IslandHall x = Check.hall("people 1;may a honest;", "road 0;", "told 11;", "told 12;", "told 13;", "told 15;", "told 31;",
                "told 32;", "told 64;", "told 99;");
        for (int i = 0; i < 12; i++) {
            x.says(0, 0);
        }
        CHECK.due("the last one", () -> x.could(-1, 1), 1);
        for (int s = 2; s < 9; s++) {
            int sentence = s;
            CHECK.due("beyond it, sentence " + s, () -> x.could(-1, sentence), 0);
        }
        CHECK.due("one less", x::back, 11);
        CHECK.due("the last one is gone", () -> x.could(-1, 1), 0);
    }

    /** "'says': whether that one could say the EXPR as its next EVENT (FREE: it could)". */
    private static void saysAsTheNextEvent() {
        IslandHall x = Check.hall("people 4;may b turner;may c free;may d dayer;lies 3;day 3;", "a says (road 0);", "b says (road 0);",
                "c says (road 1);", "d says (road 0);", "road 0;");
        CHECK.due("worlds", () -> x.worlds(0), 4);
        CHECK.due("honest ones", () -> x.could(-1, 0), 2);
        CHECK.due("turners at first", () -> x.could(-1, 1), 2);
        CHECK.due("free ones", () -> x.could(-1, 2), 4);
        CHECK.due("dayers on a day of lies", () -> x.could(-1, 3), 0);
        x.says(2, 0);
        x.answers(1, 4, 0);
        CHECK.due("turners that told the truth", () -> x.could(-1, 1), 0);
        CHECK.due("as could() tells", () -> x.could(1, 4), 0);
        x.answers(1, 4, 1);
        CHECK.due("and then a lie", () -> x.could(-1, 1), 2);
    }

    /** "What an EXPR is in a WORLD, so many EVENTS having been": what one would say is no EVENT. */
    private static void saysWithinSays() {
        IslandHall x = Check.hall("people 1;may a turner;", "a says (a says (road 0));", "a says (a says (a says (road 0)));",
                "a says (told 0);", "a says (not told 0);");
        CHECK.due("twice by the same turn", () -> x.could(-1, 0), 2);
        CHECK.due("thrice", () -> x.could(-1, 1), 1);
        CHECK.due("it tells of no event", () -> x.could(-1, 2), 1);
        CHECK.due("nor of itself", () -> x.could(-1, 3), 1);
    }

    /** "ANSWERS to WHO (0): the KINDS of all PEOPLE, as a row; ROAD (1), DAY (2), WORD (3)". */
    private static void answersToWho() {
        IslandHall x = Check.hall("people 2;may a turner liar;may b turner free;roads 3;lies 1;words;fact not day 6;");
        CHECK.due("worlds", () -> x.worlds(1), 9 * 3 * 6 * 2);
        CHECK.due("rows of kinds", () -> x.told(0), 4);
        CHECK.due("roads", () -> x.told(1), 3);
        CHECK.due("days", () -> x.told(2), 6);
        CHECK.due("words", () -> x.told(3), 2);
        IslandHall rows = Check.hall("people 7;fact many liar=3;");
        CHECK.due("rows of seven", () -> rows.told(0), 35);
        IslandHall nobody = Check.hall("people 0;roads 4;");
        CHECK.due("the row of nobody", () -> nobody.told(0), 1);
        StringBuilder s = new StringBuilder("people 7;may a honest liar dayer free;");
        for (char name = 'b'; name <= 'g'; name++) {
            s.append("may ").append(name).append(" liar dayer free;");
        }
        IslandHall most = Check.hall(s.toString());
        CHECK.due("the most rows that there can be", () -> most.told(0), 2916);
        CHECK.due("none is needed for them", () -> most.enough(0), 0);
    }

    /** "LEFT OUT an EVENT counts in turns". */
    private static void leftOutCountsInTurns() {
        IslandHall x = Check.hall("people 1;may a turner;", "road 0;");
        x.says(0, 0);
        x.answers(0, 0, 1);
        CHECK.due("either tells that it begins honest", x::needless, 3);
        CHECK.due("worlds", () -> x.worlds(1), 1);
        IslandHall y = Check.hall("people 1;may a turner liar;", "road 0;", "road 1;");
        y.says(0, 1);
        y.says(0, 0);
        CHECK.due("a turner that begins as a liar", () -> y.told(0), 1);
        CHECK.due("the second alone tells of the turner", () -> y.enough(0), 2);
    }

    /** LEFT OUT an EVENT "bars no WORLD", but it was told. */
    private static void leftOutIsStillTold() {
        IslandHall x = Check.hall("people 2;may a honest;may b honest;roads 2;", "road 0;", "told 0;");
        x.says(0, 0);
        x.says(1, 1);
        CHECK.due("either tells the road", x::needless, 3);
        CHECK.due("the first is enough", () -> x.enough(1), 1);
        CHECK.due("no knot", x::knots, 0);
    }

    /** "but bars no WORLD". */
    private static void leftOutBarsNoWorld() {
        IslandHall x = Check.hall("people 1;may a honest;", "road 0;", "road 1;");
        x.says(0, 0);
        x.says(0, 1);
        CHECK.due("nothing fits", () -> x.worlds(1), 0);
        CHECK.due("the second bars all, the first nothing", x::needless, 1);
        CHECK.due("it is the knot", () -> x.knot(0), 2);
        CHECK.due("the only one", x::knots, 1);
    }

    /** "NEEDLESS is an EVENT, if LEFT OUT alone the same WORLDS FIT." */
    private static void needlessAlone() {
        IslandHall x = Check.hall("people 1;may a honest;roads 4;", "road 0 or road 1;", "road 0 or road 2;", "not road 3;",
                "road 0 or road 1 or road 2 or road 3;");
        CHECK.due("no event", x::needless, 0);
        x.says(0, 3);
        CHECK.due("one that bars nothing", x::needless, 1);
        x.says(0, 0);
        CHECK.due("one that bars", x::needless, 1);
        x.says(0, 2);
        CHECK.due("one that bars no more", x::needless, 5);
        x.says(0, 1);
        CHECK.due("one that bars one more", x::needless, 5);
        x.says(0, 1);
        CHECK.due("the same twice: each alone", x::needless, 29);
        x.back();
        CHECK.due("once again", x::needless, 5);
        IslandHall twelve = Check.hall("people 1;", "a is honest;");
        for (int i = 0; i < 12; i++) {
            twelve.says(0, 0);
        }
        CHECK.due("all twelve", twelve::needless, 4095);
    }

    /** "ENOUGH for an ANSWER: the fewest EVENTS such that .. it has just as many ANSWERS as with all". */
    private static void enoughIsFewest() {
        IslandHall x = Check.hall("people 1;may a honest;roads 3;words;", "not road 1;", "not road 2;", "road 0;", "word 1;");
        x.says(0, 0);
        CHECK.due("two roads are left by one", () -> x.enough(1), 1);
        x.says(0, 1);
        CHECK.due("one road by two", () -> x.enough(1), 3);
        x.says(0, 2);
        CHECK.due("one alone is fewer, though behind", () -> x.enough(1), 4);
        x.says(0, 3);
        CHECK.due("the word by another", () -> x.enough(3), 8);
        CHECK.due("the road still by that", () -> x.enough(1), 4);
        CHECK.due("the day by none", () -> x.enough(2), 0);
        CHECK.due("who by none", () -> x.enough(0), 0);
        IslandHall y = Check.hall("people 1;roads 2;", "road 0;");
        y.says(0, 0);
        CHECK.due("both kinds and both roads are left: none is needed", () -> y.enough(0) + y.enough(1), 0);
    }

    /** "of like ones the first as a row of bits (the set with the least EVENT that not both have)". */
    private static void enoughOfLikeOnesTheFirst() {
        IslandHall x = Check.hall("people 1;may a honest;lies 0;fact not day 5 and not day 6;", "not (day 1 or day 2);",
                "not (day 1 or day 3);", "not (day 2 or day 4);", "not (day 3 or day 4);", "not day 0;");
        for (int s = 0; s < 4; s++) {
            x.says(0, s);
        }
        CHECK.due("one day", () -> x.told(2), 1);
        CHECK.due("0 and 3, not 1 and 2", () -> x.enough(2), 0b1001);
        x.says(0, 4);
        CHECK.due("two knots", x::knots, 2);
        CHECK.due("that with 0 ahead", () -> x.knot(0), 0b11001);
        CHECK.due("the other", () -> x.knot(1), 0b10110);
        IslandHall y = Check.hall("people 1;may a honest;roads 2;", "road 0;", "road 0 or road 1;");
        y.says(0, 1);
        y.says(0, 0);
        y.says(0, 0);
        CHECK.due("the first of two that tell it", () -> y.enough(1), 2);
    }

    /** Fifteen rows of kinds of b and c; a, who is honest, bars them one by one. */
    private static IslandHall rowsBarred(String kindsOfB, String kindsOfC) {
        IslandHall x = Check.hall("people 3;may a honest;may b " + kindsOfB + ";may c " + kindsOfC + ";lies 0;day 1;");
        int s = 0;
        for (String b : kindsOfB.split(" ")) {
            for (String c : kindsOfC.split(" ")) {
                if (s < 12) {
                    Check.sentence(x, "not (b is " + b + " and c is " + c + ");");
                    x.says(0, s);
                    s++;
                }
            }
        }
        return x;
    }

    /** The least and the greatest that ENOUGH can be. */
    private static void enoughOfNoneAndOfAll() {
        IslandHall none = Check.hall("people 1;");
        for (int what = 0; what < 4; what++) {
            int w = what;
            CHECK.due("no event, answer " + w, () -> none.enough(w), 0);
        }
        IslandHall all = rowsBarred("honest liar turner dayer free", "honest liar dayer");
        CHECK.due("twelve events", () -> all.count(3), 12);
        CHECK.due("three rows left", () -> all.told(0), 3);
        CHECK.due("all twelve are needed", () -> all.enough(0), 4095);
        CHECK.due("none for the road", () -> all.enough(1), 0);
    }

    /** "just as many ANSWERS as with all", where these are none. */
    private static void enoughWhereNothingFits() {
        IslandHall x = Check.hall("people 2;may a honest;may b honest;roads 2;", "road 0;", "road 1;", "not road 0 and not road 1;");
        x.says(0, 0);
        x.says(1, 0);
        x.says(0, 1);
        for (int what = 0; what < 4; what++) {
            int w = what;
            CHECK.due("the first pair that leaves none, answer " + w, () -> x.enough(w), 0b101);
        }
        x.says(1, 2);
        CHECK.due("one that leaves none", () -> x.enough(2), 0b1000);
        IslandHall facts = Check.hall("people 1;fact road 1;", "road 0;");
        facts.says(0, 0);
        CHECK.due("facts leave none", () -> facts.enough(0), 0);
    }

    /** "A KNOT: EVENTS that no WORLD .. FITS all, though of each set within it some WORLD does". */
    private static void knotsAreLeast() {
        IslandHall x = Check.hall("people 1;may a honest;roads 3;", "road 0 or road 1;", "road 1 or road 2;", "road 0 or road 2;",
                "road 1;", "road 3;");
        x.says(0, 0);
        x.says(0, 1);
        CHECK.due("none", x::knots, 0);
        x.says(0, 2);
        CHECK.due("three that can't all be", x::knots, 1);
        CHECK.due("these", () -> x.knot(0), 7);
        x.says(0, 3);
        CHECK.due("and a pair", x::knots, 2);
        CHECK.due("the pair ahead", () -> x.knot(0), 0b1100);
        CHECK.due("the three behind", () -> x.knot(1), 0b0111);
        x.says(0, 4);
        CHECK.due("one that can't be", () -> x.knot(0), 0b10000);
        CHECK.due("is in no other", x::knots, 3);
        x.back();
        CHECK.due("taken back", x::knots, 2);
    }

    /** "no WORLD (that keeps FACTS)". */
    private static void knotsKeepFacts() {
        IslandHall x = Check.hall("people 1;may a honest;roads 3;fact not road 2;", "not road 0;", "not road 1;");
        x.says(0, 0);
        x.says(0, 1);
        CHECK.due("facts bar the third road", x::knots, 1);
        CHECK.due("both", () -> x.knot(0), 3);
    }

    /** "by how many they are, then likewise". */
    private static void knotsByNumberThenFirst() {
        // just two of b .. g are liars; a says of each that it is, and that it isn't
        IslandHall x = Check.hall("people 7;may a honest;fact many liar=2;");
        for (int p = 1; p < 7; p++) {
            Check.sentence(x, (char) ('a' + p) + " is liar;");
            Check.sentence(x, "not " + (char) ('a' + p) + " is liar;");
        }
        for (int e = 0; e < 12; e++) {
            x.says(0, e);
        }
        List<Integer> due = new ArrayList<>();
        for (int many = 0; many <= 12; many++) {
            for (int row = 4095; row >= 0; row--) {
                int set = Integer.reverse(row) >>> 20;
                if (Integer.bitCount(set) == many && isKnot(set)) {
                    due.add(set);
                }
            }
        }
        CHECK.due("knots", x::knots, due.size());
        CHECK.due("pairs, threes and fives", due::size, 6 + 20 + 6);
        for (int i = 0; i < due.size(); i++) {
            int at = i;
            CHECK.due("knot " + i, () -> x.knot(at), due.get(at));
        }
        CHECK.throwsNoSuch("no more", () -> x.knot(due.size()));
    }

    private static boolean isKnot(int set) {
        int liars = set & 0x555;
        int others = (set & 0xaaa) >> 1;
        boolean pair = Integer.bitCount(set) == 2 && liars == others;
        boolean three = Integer.bitCount(liars) == 3 && others == 0;
        boolean five = Integer.bitCount(others) == 5 && liars == 0;
        return pair || three || five;
    }

    /** The greatest KNOT there can be, and the least. */
    private static void knotOfAllAndOfNone() {
        IslandHall all = rowsBarred("honest liar dayer free", "honest liar dayer");
        CHECK.due("nothing fits", () -> all.worlds(1), 0);
        CHECK.due("one knot", all::knots, 1);
        CHECK.due("of all twelve", () -> all.knot(0), 4095);
        all.back();
        CHECK.due("none without the last", all::knots, 0);
        IslandHall none = Check.hall("people 1;fact road 1;", "road 0;");
        CHECK.due("facts that can't be", none::knots, 1);
        CHECK.due("need no event", () -> none.knot(0), 0);
        none.says(0, 0);
        none.says(0, 0);
        CHECK.due("and each other set has that within it", none::knots, 1);
    }

    /** The most KNOTS that there can be of twelve EVENTS: any six. */
    private static void mostKnots() {
        String four = "many honest=3 and many free=0 or many honest=4 and many free=1 or many honest=5 and many free=2";
        String five = "many honest=2 and many free=0 or many honest=3 and many free=1 or many honest=4 and many free=2";
        StringBuilder s = new StringBuilder("people 7;may a honest;");
        for (char name = 'b'; name <= 'f'; name++) {
            s.append("may ").append(name).append(" honest liar dayer free;");
        }
        // eleven things that are so or not, four or five of which are; the twelfth is that four are
        IslandHall x = Check.hall(s + "fact " + four + " or " + five + ";");
        CHECK.due("worlds", () -> x.worlds(0), 330 + 462);
        for (char name = 'b'; name <= 'f'; name++) {
            Check.sentence(x, name + " is liar or " + name + " is free;");
            Check.sentence(x, name + " is dayer or " + name + " is free;");
        }
        Check.sentence(x, "g is liar;");
        Check.sentence(x, four + ";");
        for (int e = 0; e < 12; e++) {
            x.says(0, e);
        }
        CHECK.due("six of twelve", x::knots, 924);
        CHECK.due("the first", () -> x.knot(0), 0b000000111111);
        CHECK.due("the second", () -> x.knot(1), 0b000001011111);
        CHECK.due("the last but one", () -> x.knot(922), 0b111110100000);
        CHECK.due("the last", () -> x.knot(923), 0b111111000000);
        CHECK.throwsNoSuch("no more", () -> x.knot(924));
    }

    /** "no WORLD that FITS": what every call tells of none. */
    private static void noWorldFits() {
        IslandHall x = Check.hall("people 2;may b free;roads 2;words;lies 1;", "road 0;", "a is liar;");
        CHECK.due("nobody says that", () -> x.says(0, 1), 0);
        CHECK.due("worlds", () -> x.worlds(1), 0);
        CHECK.due("facts", () -> x.worlds(0), 56);
        CHECK.throwsNoSuch("world", () -> x.world(0, 0));
        for (int what = 0; what < 4; what++) {
            int w = what;
            CHECK.due("told " + w, () -> x.told(w), 0);
            CHECK.due("can " + w, () -> x.can(w), w == 0 ? Check.NO_SUCH : 0);
            CHECK.due("enough " + w, () -> x.enough(w), 1);
        }
        CHECK.due("may", () -> x.may(0, 1), 0);
        CHECK.due("may of a free one", () -> x.may(1, 1), 0);
        CHECK.due("could", () -> x.could(1, 0), 0);
        CHECK.due("so", () -> x.could(-1, 0), 0);
        CHECK.due("needless", x::needless, 0);
        CHECK.due("events go on", () -> x.says(1, 0), 1);
        CHECK.due("still none", () -> x.worlds(1), 0);
        CHECK.due("the free one's is needless", x::needless, 2);
        CHECK.due("one is left", x::back, 1);
        CHECK.due("none is left", x::back, 0);
        CHECK.due("all fit again", () -> x.worlds(1), 56);
    }

    // ---- Promises 8 to 10 ----

    private static IslandHall twoSentences() {
        return Check.hall("people 2;roads 2;", "road 0;", "a as b;");
    }

    /** says: "NoSuchElementException: also no such SENTENCE", no such one. */
    private static void saysOfNobodyOrNothing() {
        IslandHall x = twoSentences();
        CHECK.due("the last of both", () -> x.says(1, 1), 0);
        String before = Check.sight(x);
        for (int bad : new int[] {Integer.MIN_VALUE, -1, 2, Integer.MAX_VALUE}) {
            CHECK.throwsNoSuch("says " + bad + " 0", () -> x.says(bad, 0));
            CHECK.throwsNoSuch("says 0 " + bad, () -> x.says(0, bad));
        }
        CHECK.same("sayings of nobody", x, before);
        CHECK.due("the next number", () -> x.says(0, 0), 1);
        IslandHall none = new IslandHall();
        CHECK.throwsNoSuch("a new object has nobody", () -> none.says(0, 0));
    }

    /** says: "NONE: there are 12." */
    private static void saysRefusesTheThirteenth() {
        IslandHall x = twoSentences();
        for (int i = 0; i < 12; i++) {
            x.says(i % 2, 0);
        }
        String before = Check.sight(x);
        CHECK.due("the 13th", () -> x.says(0, 1), -1);
        CHECK.same("the 13th", x, before);
        CHECK.due("the 12th is the last", x::back, 11);
        CHECK.due("there is room for it", () -> x.says(0, 1), 11);
    }

    /** answers: "NoSuchElementException: also no such WORD." */
    private static void answersOfNobodyNothingOrNoWord() {
        IslandHall x = twoSentences();
        CHECK.due("the last of all three", () -> x.answers(1, 1, 1), 0);
        CHECK.due("the first of all three", () -> x.answers(0, 0, 0), 1);
        String before = Check.sight(x);
        for (int bad : new int[] {Integer.MIN_VALUE, -1, 2, Integer.MAX_VALUE}) {
            CHECK.throwsNoSuch("answers " + bad + " 0 0", () -> x.answers(bad, 0, 0));
            CHECK.throwsNoSuch("answers 0 " + bad + " 0", () -> x.answers(0, bad, 0));
            CHECK.throwsNoSuch("answers 0 0 " + bad, () -> x.answers(0, 0, bad));
        }
        CHECK.same("answers by no word", x, before);
        CHECK.due("the next number", () -> x.answers(0, 0, 0), 2);
    }

    /** answers: "likewise". */
    private static void answersRefusesTheThirteenth() {
        IslandHall x = twoSentences();
        for (int i = 0; i < 12; i++) {
            CHECK.due("event " + i, () -> x.answers(0, 0, 0), i);
        }
        String before = Check.sight(x);
        CHECK.due("the 13th", () -> x.answers(0, 0, 1), -1);
        CHECK.same("the 13th", x, before);
    }

    /** back: "how many are left; NONE: there is none". */
    private static void backToNone() {
        IslandHall x = twoSentences();
        CHECK.due("none", x::back, -1);
        String before = Check.sight(x);
        for (int i = 0; i < 12; i++) {
            x.says(i % 2, i % 2);
        }
        for (int left = 11; left >= 0; left--) {
            CHECK.due("left", x::back, left);
            int due = left;
            CHECK.due("counted", () -> x.count(3), due);
        }
        CHECK.due("none any more", x::back, -1);
        CHECK.due("none at all", () -> x.count(3), 0);
        CHECK.same("events taken back", x, before);
    }

    /** "The latest EVENT is taken back": what it barred, what it told, its turn. */
    private static void backTakesAllOfIt() {
        IslandHall x = Check.hall("people 2;may a turner;may b honest;roads 2;", "road 0;", "told 1;", "told 0;");
        x.says(0, 0);
        String before = Check.sight(x);
        x.says(0, 0);
        x.says(1, 1);
        x.back();
        CHECK.due("one is left", x::back, 1);
        CHECK.same("two taken back", x, before);
        CHECK.due("the turn: none could say the same next", () -> x.could(0, 0), 0);
        CHECK.due("what was told", () -> x.could(-1, 1), 0);
        CHECK.due("what still is", () -> x.could(-1, 2), 1);
        IslandHall y = twoSentences();
        y.says(0, 0);
        y.answers(0, 0, 1);
        CHECK.due("a knot", y::knots, 1);
        y.back();
        CHECK.due("no knot", y::knots, 0);
        y.answers(0, 0, 0);
        CHECK.due("nor with another", y::knots, 0);
    }

    // ---- Promises 11 to 15 ----

    /** worlds: "WORLDS that keep FACTS (what 0), that FIT (1). NoSuchElementException: another what." */
    private static void worldsOfWhat() {
        IslandHall x = twoSentences();
        x.says(0, 1);
        CHECK.due("worlds 0", () -> x.worlds(0), 8);
        CHECK.due("worlds 1", () -> x.worlds(1), 4);
        CHECK.throwsNoSuch("worlds 2", () -> x.worlds(2));
        for (int what : FAR) {
            CHECK.throwsNoSuch("worlds " + what, () -> x.worlds(what));
        }
    }

    /** "WORLDS are ordered as rows: PEOPLE from 0 on by KIND (..), ROAD, DAY, WORD." */
    private static void worldsInTheirOrder() {
        IslandHall x = Check.hall("people 2;may a turner free;may b liar turner;roads 2;lies 1;words;fact not day 2;");
        int[][] aCodes = {{2, 0}, {2, 1}, {4, 0}};
        int[][] bCodes = {{1, 0}, {2, 0}, {2, 1}};
        int i = 0;
        for (int[] a : aCodes) {
            for (int[] b : bCodes) {
                for (int rest = 0; rest < 2 * 7 * 2; rest++) {
                    int day = rest / 2 % 7;
                    if (day == 2) {
                        continue;
                    }
                    int[] due = {a[0], b[0], a[1], b[1], rest / 14, day, rest % 2};
                    int[] what = {0, 1, 8, 9, 16, 17, 18};
                    int at = i;
                    for (int k = 0; k < 7; k++) {
                        int w = what[k];
                        CHECK.due("world " + at + " " + w, () -> x.world(at, w), due[k]);
                    }
                    i++;
                }
            }
        }
        CHECK.due("all of them", () -> x.worlds(1), i);
    }

    /** world: "Of the i-th WORLD that FITS", "there is none". */
    private static void worldOfWhich() {
        IslandHall x = Check.hall("people 1;roads 3;", "not road 1;");
        x.says(0, 0);
        int[] kinds = {0, 0, 1};
        int[] roads = {0, 2, 1};
        for (int i = 0; i < 3; i++) {
            int at = i;
            CHECK.due("kind of " + at, () -> x.world(at, 0), kinds[at]);
            CHECK.due("road of " + at, () -> x.world(at, 16), roads[at]);
        }
        CHECK.throwsNoSuch("world 3", () -> x.world(3, 16));
        for (int i : FAR) {
            CHECK.throwsNoSuch("world " + i, () -> x.world(i, 16));
        }
        for (int size : new int[] {63, 64, 65, 127, 128}) {
            IslandHall wide = Check.hall("people 7;fact " + aboutSize(size) + ";");
            CHECK.due("so many", () -> wide.worlds(1), size);
            CHECK.due("the last of " + size, () -> wide.world(size - 1, 16), 0);
            CHECK.throwsNoSuch("none behind " + size, () -> wide.world(size, 16));
        }
    }

    /** What is so in just so many of the 128 WORLDS of seven people. */
    private static String aboutSize(int size) {
        String all = "b is liar and c is liar and d is liar and e is liar and f is liar and g is liar";
        switch (size) {
            case 63:
                return "a is liar and not (" + all + ")";
            case 64:
                return "a is liar";
            case 65:
                return "a is liar or " + all;
            case 127:
                return "a is honest or not (" + all + ")";
            default:
                return "road 0";
        }
    }

    /** world: "what 0 to 6 .. 8 to 14 .. 16 ROAD, 17 DAY, 18 WORD", "another what, nobody". */
    private static void worldOfWhat() {
        for (int n = 0; n <= 7; n++) {
            IslandHall x = Check.hall("people " + n + ";roads 4;day 5;words;fact road 3 and word 1 and many liar=" + n + ";");
            for (int what = -2; what <= 20; what++) {
                int w = what;
                long due = what >= 0 && what < n ? 1 : what >= 8 && what < 8 + n ? 0
                        : what == 16 ? 3 : what == 17 ? 5 : what == 18 ? 1 : Check.NO_SUCH;
                CHECK.due("of " + n + ", world 0 " + w, () -> x.world(0, w), due);
            }
            for (int what : FAR) {
                CHECK.throwsNoSuch("world 0 " + what, () -> x.world(0, what));
            }
        }
    }

    /** world: "8 to 14 whether it is a LIAR at first (1; 0 of all that are no TURNERS)". */
    private static void worldOfTurnersAtFirst() {
        IslandHall x = Check.hall("people 2;may a honest;may b honest liar turner dayer free;lies 0;day 0;");
        int[] kinds = {0, 1, 2, 2, 3, 4};
        int[] liars = {0, 0, 0, 1, 0, 0};
        CHECK.due("worlds", () -> x.worlds(1), 6);
        for (int i = 0; i < 6; i++) {
            int at = i;
            CHECK.due("kind of b in " + at, () -> x.world(at, 1), kinds[at]);
            CHECK.due("b at first in " + at, () -> x.world(at, 9), liars[at]);
            CHECK.due("a at first in " + at, () -> x.world(at, 8), 0);
        }
    }

    /** told: "of WHO, ROAD, DAY, WORD (0 to 3). NoSuchElementException: another what." */
    private static void toldOfWhat() {
        IslandHall x = Check.hall("people 2;roads 4;lies 0;words;");
        int[] due = {4, 4, 7, 2};
        for (int what = 0; what < 4; what++) {
            int w = what;
            CHECK.due("told " + w, () -> x.told(w), due[w]);
        }
        CHECK.throwsNoSuch("told 4", () -> x.told(4));
        for (int what : FAR) {
            CHECK.throwsNoSuch("told " + what, () -> x.told(what));
        }
    }

    /** can: "ROADS (what 1), DAYS (2), WORDS (3) that are ANSWERS, as bits. NoSuchElementException: another what." */
    private static void canOfWhat() {
        IslandHall x = Check.hall("people 1;may a honest;roads 4;lies 0;words;", "road 3 and day 6 and word 1;", "not (road 0 or day 0);");
        CHECK.due("roads", () -> x.can(1), 15);
        CHECK.due("days", () -> x.can(2), 127);
        CHECK.due("words", () -> x.can(3), 3);
        x.says(0, 1);
        CHECK.due("roads but the first", () -> x.can(1), 14);
        CHECK.due("days but the first", () -> x.can(2), 126);
        CHECK.due("words still", () -> x.can(3), 3);
        x.says(0, 0);
        CHECK.due("the last road", () -> x.can(1), 8);
        CHECK.due("the last day", () -> x.can(2), 64);
        CHECK.due("the last word", () -> x.can(3), 2);
        CHECK.throwsNoSuch("can 0", () -> x.can(0));
        CHECK.throwsNoSuch("can 4", () -> x.can(4));
        for (int what : FAR) {
            CHECK.throwsNoSuch("can " + what, () -> x.can(what));
        }
    }

    /** could: "a SENTENCE is so (who NONE), one could say it as its next EVENT". */
    private static void couldOfWhom() {
        IslandHall x = Check.hall("people 2;may b turner;roads 2;", "road 0;", "road 1;");
        CHECK.due("so", () -> x.could(-1, 0), 4);
        CHECK.due("a", () -> x.could(0, 0), 4);
        x.says(1, 0);
        CHECK.due("so in those that fit", () -> x.could(-1, 0), 2);
        CHECK.due("b says the other next", () -> x.could(1, 1), 4);
        CHECK.due("not the same", () -> x.could(1, 0), 0);
        CHECK.due("no event came", () -> x.count(3), 1);
        for (int who : new int[] {Integer.MIN_VALUE, -2, 2, Integer.MAX_VALUE}) {
            CHECK.throwsNoSuch("could " + who, () -> x.could(who, 0));
        }
        for (int s : new int[] {Integer.MIN_VALUE, -1, 2, Integer.MAX_VALUE}) {
            CHECK.throwsNoSuch("could -1 " + s, () -> x.could(-1, s));
            CHECK.throwsNoSuch("could 0 " + s, () -> x.could(0, s));
        }
        // behind the twelfth no event can be, but one could say it
        for (int i = 1; i < 12; i++) {
            x.says(0, 0);
        }
        CHECK.due("behind the twelfth", () -> x.could(1, 1), x.worlds(1));
    }

    // ---- Promises 16 to 19 ----

    /** enough: "for an ANSWER (0 to 3) .. NoSuchElementException: another one". */
    private static void enoughOfWhat() {
        IslandHall x = Check.hall("people 2;may a honest;roads 2;lies 3;words;", "b is liar;", "road 1;", "day 6;", "word 1;");
        for (int s = 0; s < 4; s++) {
            x.says(0, s);
        }
        for (int what = 0; what < 4; what++) {
            int w = what;
            CHECK.due("enough " + w, () -> x.enough(w), 1 << w);
        }
        CHECK.throwsNoSuch("enough 4", () -> x.enough(4));
        for (int what : FAR) {
            CHECK.throwsNoSuch("enough " + what, () -> x.enough(what));
        }
    }

    /** knot: "The i-th KNOT .. NoSuchElementException: there is none". */
    private static void knotOfWhich() {
        IslandHall x = Check.hall("people 1;may a honest;roads 2;", "road 0;", "road 1;");
        CHECK.throwsNoSuch("none yet", () -> x.knot(0));
        x.says(0, 0);
        x.says(0, 1);
        x.says(0, 1);
        CHECK.due("the first, asked for at once", () -> x.knot(0), 3);
        CHECK.due("the last", () -> x.knot(1), 5);
        CHECK.throwsNoSuch("none behind it", () -> x.knot(2));
        for (int i : FAR) {
            CHECK.throwsNoSuch("knot " + i, () -> x.knot(i));
        }
        x.back();
        CHECK.throwsNoSuch("the last is gone", () -> x.knot(1));
        x.back();
        CHECK.throwsNoSuch("all are gone", () -> x.knot(0));
    }
}
