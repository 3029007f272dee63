/** Promises 1 to 7: a new object, feed, island, sentence, fault, count, may. */
public final class ReadingTest {
    private static final Check CHECK = new Check();

    public static void main(String[] args) {
        newObject();
        feed();
        tape();
        islandClauses();
        islandStaysOnFault();
        islandResets();
        islandFaults();
        sentenceFaults();
        depth();
        thirtySentences();
        counts();
        mays();
        CHECK.end();
    }

    private static void newObject() {
        IslandHall x = new IslandHall();
        long[] due = {0, 1, 0, 0, 0, 0, 0, 0};
        for (int i = 0; i < due.length; i++) {
            int what = i;
            CHECK.due("new: count " + what, () -> x.count(what), due[what]);
        }
        CHECK.due("new: worlds", () -> x.worlds(1), 1);
        CHECK.due("new: fault", x::fault, -1);
        CHECK.due("new: first", x::first, -1);
        CHECK.due("new: back", x::back, -1);
        CHECK.due("new: road", () -> x.world(0, 16), 0);
        CHECK.throwsNoSuch("new: kind of nobody", () -> x.world(0, 0));
        CHECK.throwsNoSuch("new: line", () -> x.line(0));
        CHECK.due("new: a sentence of nobody", () -> Check.sentence(x, "road 0;"), 0);
        CHECK.due("new: a name", () -> Check.sentence(x, "a is liar;"), -5);
        CHECK.due("new: so", () -> x.could(-1, 0), 1);
    }

    private static void feed() {
        IslandHall x = new IslandHall();
        for (int i = 1; i <= 25; i++) {
            int due = 20 * i;
            CHECK.due("feed " + i, () -> x.feed(0x20202020, 0x20202020, 0x20202020, 0x20202020, 0x20202020), due);
        }
        CHECK.due("feed over 500", () -> x.feed(1, 2, 3, 4, 5), -1);
        CHECK.due("the tape stays", () -> x.count(5), 500);
        CHECK.due("500 blanks", () -> x.island(500), 1);
        CHECK.due("ends at 500", x::fault, 500);
        // "people 1;may a free;" with the highest byte of each number first
        x.feed(0x70656f70, 0x6c652031, 0x3b6d6179, 0x20612066, 0x7265653b);
        CHECK.due("bytes in order", () -> x.island(20), 0);
        CHECK.due("free alone", () -> x.may(0, 0), 16);
    }

    private static void tape() {
        IslandHall x = new IslandHall();
        Check.feed(x, "people 2;");
        CHECK.throwsIllegal("more than the tape has", () -> x.island(21));
        CHECK.throwsIllegal("more for a sentence", () -> x.sentence(21));
        CHECK.throwsIllegal("below 0", () -> x.island(-1));
        CHECK.throwsIllegal("least", () -> x.sentence(Integer.MIN_VALUE));
        CHECK.due("nothing changes", () -> x.count(5), 20);
        CHECK.due("a part of the tape", () -> x.island(9), 0);
        CHECK.due("empty then", () -> x.count(5), 0);
        CHECK.due("no text at all", () -> x.island(0), 1);
        CHECK.due("its place", x::fault, 0);
        CHECK.throwsIllegal("an exception", () -> x.island(1));
        CHECK.due("keeps the fault", x::fault, 0);
        CHECK.due("no sentence at all", () -> x.sentence(0), -2);
        Check.feed(x, "road 0;");
        CHECK.due("sentence", () -> x.sentence(7), 0);
        CHECK.due("no fault", x::fault, -1);
        CHECK.due("empty behind a sentence", () -> x.count(5), 0);
        Check.feed(x, "people 9;");
        x.island(9);
        CHECK.due("empty behind a fault", () -> x.count(5), 0);
    }

    private static void worlds(String island, int due) {
        IslandHall x = new IslandHall();
        CHECK.due(island, () -> Check.island(x, island), 0);
        CHECK.due("worlds of " + island, () -> x.worlds(0), due);
    }

    private static void islandClauses() {
        worlds("people 0;", 1);
        worlds("people 7;", 128);
        worlds(" people\n2 ;\n ", 4);
        worlds("people2;roads4;words;", 32);
        worlds("people 002;", 4);
        worlds("people 1;may a turner;", 2);
        worlds("people 1;may a honest liar turner dayer free;", 6);
        worlds("people 1;may a turner;may a liar;", 1);
        worlds("people 1;roads 4;roads 2;", 4);
        worlds("people 1;lies 3;", 14);
        worlds("people 1;lies 3;day 4;", 2);
        worlds("people 1;day 4;lies 3;", 2);
        worlds("people 1;day 4;", 2);
        worlds("people 1;words;words;", 4);
        worlds("people 2;fact a is liar;fact b is honest;", 1);
        worlds("people 2;fact a is liar or b is honest and a is honest;", 3);
        worlds("people 2;fact not a is liar and b is honest;", 1);
        worlds("people 2;fact told 0;", 0);
        worlds("people 2;fact a says (b is liar);", 2);
        worlds("people 1;may a turner;fact a says (road 0);", 1);
        worlds("people 1;may a free liar;fact a says (road 0);", 1);
        worlds("people 3;fact many liar>1;", 4);
        worlds("people 3;fact many liar<1;", 1);
        worlds("people 3;fact many liar=99;", 0);
        worlds("people 3;fact many honest<99;", 8);
        worlds("people 3;fact many free=0;", 8);
        worlds("people 2;may a turner;may b turner;fact a as b;", 4);
        worlds("people 1;roads 2;fact road 3;", 0);
        worlds("people 1;fact word 1;", 0);
        worlds("people 5;may a turner dayer free liar;may b turner honest dayer free;may c turner dayer free liar;"
                + "may d honest liar turner;may e dayer liar free honest turner;", 3000);
    }

    private static void islandStaysOnFault() {
        IslandHall x = Check.hall("people 2;roads 3;lies 2 4;", "a is liar;");
        x.says(1, 0);
        x.question(0, 0);
        x.hide(0, 9);
        x.riddle(1);
        x.fewest(3);
        CHECK.due("a fault", () -> Check.island(x, "people 4;roads 2;words;lies 1;may a free;fact a is foo;"), 3);
        long[] due = {2, 3, 1, 1, 1, 0, 20, 1};
        for (int i = 0; i < due.length; i++) {
            int what = i;
            CHECK.due("all stays: count " + what, () -> x.count(what), due[what]);
        }
        CHECK.due("all stays: may", () -> x.may(0, 0), 3);
        CHECK.due("all stays: worlds", () -> x.worlds(1), 42);
        CHECK.due("all stays: sentence", () -> x.could(-1, 0), 21);
    }

    private static void islandResets() {
        IslandHall x = Check.hall("people 2;may a honest;lies 1;day 1;", "a is liar;", "b is liar;");
        x.question(0, 0);
        x.question(0, 1);
        CHECK.due("fewest", () -> x.fewest(0), 1);
        CHECK.due("first is kept", x::first, 1);
        CHECK.due("a riddle is kept", () -> x.riddle(0), 1);
        CHECK.due("line", () -> x.line(0), 1);
        x.says(0, 1);
        x.hide(0, 1);
        CHECK.due("new island", () -> Check.island(x, "people 1;may a turner;"), 0);
        for (int what : new int[] {2, 3, 4, 5, 6, 7}) {
            CHECK.due("gone: count " + what, () -> x.count(what), 0);
        }
        CHECK.due("gone: first", x::first, -1);
        CHECK.throwsNoSuch("gone: line", () -> x.line(0));
        CHECK.throwsNoSuch("gone: sentence", () -> x.could(-1, 0));
        CHECK.throwsNoSuch("gone: question", () -> x.reply(0));
        CHECK.due("turns begin anew", () -> Check.sentence(x, "told 0;"), 0);
        CHECK.due("nothing was told", () -> x.could(-1, 0), 0);
        CHECK.due("the turner at first", () -> x.could(0, 0), 1);
    }

    private static void islandFault(String text, int fault, int place) {
        IslandHall x = new IslandHall();
        CHECK.due(text, () -> Check.island(x, text), fault);
        CHECK.due("fault of " + text, x::fault, place);
    }

    private static void islandFaults() {
        islandFault("", 1, 0);
        islandFault("   ", 1, 3);
        islandFault("peopl 2;", 1, 0);
        islandFault("people2", 1, 7);
        islandFault("people ;", 1, 7);
        islandFault("people 8;", 2, 7);
        islandFault("people 0002;", 2, 7);
        islandFault("people 1234 foo", 2, 7);
        islandFault("people 2;;", 1, 9);
        islandFault("people 2;foo;", 1, 9);
        islandFault("people 2;a is liar;", 1, 9);
        islandFault("people 2;people 2;", 1, 9);
        islandFault("people 2;words", 1, 14);
        islandFault("people 2;words  ", 1, 16);
        islandFault("people 2;roads 0;", 2, 15);
        islandFault("people 2;roads 5;", 2, 15);
        islandFault("people 2;roads a;", 1, 15);
        islandFault("people 2;lies;", 1, 13);
        islandFault("people 2;lies 1 7;", 2, 16);
        islandFault("people 2;lies 1 a;", 1, 16);
        islandFault("people 2;day 7;", 2, 13);
        islandFault("people 2;day 1 2;", 1, 15);
        islandFault("people 2;may;", 1, 12);
        islandFault("people 2;may ab liar;", 1, 13);
        islandFault("people 2;may liar;", 1, 13);
        islandFault("people 2;may c liar;", 4, 13);
        islandFault("people 2;may z foo;", 4, 13);
        islandFault("people 2;may a;", 1, 14);
        islandFault("people 2;may a 1;", 1, 15);
        islandFault("people 2;may a foo;", 3, 15);
        islandFault("people 2;may a b;", 3, 15);
        islandFault("people 2;may a people;", 3, 15);
        islandFault("people 2;may a liar free liar;", 5, 25);
        // behind a KIND none must stand: any other word is just one that can't
        islandFault("people 2;may a liar foo;", 1, 20);
        islandFault("people 2;may a liar", 1, 19);
        islandFault("people 2;fact", 1, 13);
        islandFault("people 2;fact a is liar a is liar;", 1, 24);
        islandFault("people 2;fact c is liar;", 4, 14);
        islandFault("people 2;fact a as c;", 4, 19);
        islandFault("people 2;fact a as liar;", 1, 19);
        islandFault("people 2;Words;", 1, 9);
        islandFault("people 2;\twords;", 1, 9);
        islandFault("people 2-;", 1, 8);
        islandFault("people \u00e2;", 1, 7);
        islandFault("people 0;may a liar;", 4, 13);
        String six = "honest liar turner dayer free;";
        String many = "people 5;may a " + six + "may b " + six + "may c " + six + "may d " + six + "may e honest liar turner;";
        islandFault(many, 6, many.length());
        islandFault(many + " ", 6, many.length() + 1);
        islandFault(many + "fact many free>4;", 6, many.length() + 17);
        islandFault(many + "x", 1, many.length());
        islandFault("people 7;roads 4;words;lies 0;", 6, 30);
    }

    private static void sentenceFault(String text, int answer, int place) {
        IslandHall x = Check.hall("people 2;");
        CHECK.due(text, () -> Check.sentence(x, text), answer);
        CHECK.due("fault of " + text, x::fault, place);
        CHECK.due("sentences behind " + text, () -> x.count(2), answer == 0 ? 1 : 0);
    }

    private static void sentenceFaults() {
        sentenceFault("a is liar;", 0, -1);
        sentenceFault("a is liar ; ", 0, -1);
        sentenceFault("a is liar;;", -2, 10);
        sentenceFault("a is liar", -2, 9);
        sentenceFault("a is liar)", -2, 9);
        sentenceFault("(a is liar;", -2, 10);
        sentenceFault("(a is liar", -2, 10);
        sentenceFault("();", -2, 1);
        sentenceFault("a;", -2, 1);
        sentenceFault("a liar;", -2, 2);
        sentenceFault("ab is liar;", -2, 0);
        sentenceFault("liar;", -2, 0);
        sentenceFault("5;", -2, 0);
        sentenceFault("road;", -2, 4);
        sentenceFault("road 3;", 0, -1);
        sentenceFault("road 4;", -3, 5);
        sentenceFault("day 6;", 0, -1);
        sentenceFault("day 7;", -3, 4);
        sentenceFault("word 1;", 0, -1);
        sentenceFault("word 2;", -3, 5);
        sentenceFault("told 99;", 0, -1);
        sentenceFault("told 099;", 0, -1);
        sentenceFault("told 100;", -3, 5);
        sentenceFault("told 0000;", -3, 5);
        sentenceFault("many liar<99;", 0, -1);
        sentenceFault("many liar>100;", -3, 10);
        sentenceFault("many liar 3;", -2, 10);
        sentenceFault("many a<3;", -4, 5);
        sentenceFault("many <3;", -2, 5);
        sentenceFault("many liar<=3;", -2, 10);
        sentenceFault("a is foo;", -4, 5);
        sentenceFault("a is (liar);", -2, 5);
        sentenceFault("a is", -2, 4);
        sentenceFault("c is liar;", -5, 0);
        sentenceFault("z;", -5, 0);
        sentenceFault("a as b;", 0, -1);
        sentenceFault("a as c;", -5, 5);
        sentenceFault("a says a is liar;", -2, 7);
        sentenceFault("a says (b is liar);", 0, -1);
        sentenceFault("a says (c is liar);", -5, 8);
        sentenceFault("a is liar and;", -2, 13);
        sentenceFault("a is liar and or;", -2, 14);
        sentenceFault("or a is liar;", -2, 0);
        sentenceFault("a is liar not b is liar;", -2, 10);
        sentenceFault("fact a is liar;", -2, 0);
    }

    private static void depth() {
        sentenceFault("(((((road 0)))));", 0, -1);
        sentenceFault("((((((road 0))))));", -3, 6);
        sentenceFault("((((((not road 0))))));", -3, 6);
        sentenceFault("(((((((", -3, 6);
        sentenceFault("((((((;", -2, 6);
        sentenceFault("((((((", -2, 6);
        sentenceFault("((((((foo", -2, 6);
        sentenceFault("((((((z", -3, 6);
        sentenceFault("a says(b says(a says(b says(a says(road 0)))));", 0, -1);
        sentenceFault("a says(b says(a says(b says(a says(b says(c", -3, 42);
        sentenceFault("not(not(not(not(not(road 0)))));", 0, -1);
        sentenceFault("not not not not not not road 0;", 0, -1);
        sentenceFault("not not not not not not not road 0;", -3, 24);
        sentenceFault("not not not not not not (not road 0);", 0, -1);
        sentenceFault("not not not not not not not;", -3, 24);
        sentenceFault("not not not not not not;", -2, 23);
        sentenceFault("(road 0) and (road 0) and (road 0) and (road 0) and (road 0) and (road 0) and (road 0);", 0, -1);
    }

    private static void thirtySentences() {
        IslandHall x = Check.hall("people 1;");
        for (int i = 0; i < 30; i++) {
            int due = i;
            CHECK.due("sentence " + i, () -> Check.sentence(x, "a is liar;"), due);
        }
        CHECK.due("a fault", () -> Check.island(x, "foo"), 1);
        CHECK.due("its place", x::fault, 0);
        CHECK.due("one more", () -> Check.sentence(x, "a is liar;"), -9);
        CHECK.due("that had none", x::fault, -1);
        CHECK.due("the tape is empty", () -> x.count(5), 0);
        CHECK.due("ahead of a fault", () -> Check.sentence(x, "foo"), -9);
        CHECK.throwsIllegal("not so many", () -> x.sentence(1));
        CHECK.due("thirty", () -> x.count(2), 30);
        CHECK.due("the last", () -> x.says(0, 29), 0);
        CHECK.throwsNoSuch("none behind it", () -> x.says(0, 30));
    }

    private static void counts() {
        IslandHall x = Check.hall("people 3;roads 4;lies 0 6 6;lies 1 5;", "a is liar;", "b is liar;");
        x.says(0, 1);
        x.question(1, 1);
        x.question(1, 1);
        x.question(2, 1);
        x.feed(1, 1, 1, 1, 1);
        long[] due = {3, 4, 2, 1, 3, 20, 34, 0};
        for (int i = 0; i < due.length; i++) {
            int what = i;
            CHECK.due("count " + what, () -> x.count(what), due[what]);
        }
        x.hide(0, 0);
        CHECK.due("hidden", () -> x.count(7), 1);
        CHECK.throwsNoSuch("count 8", () -> x.count(8));
        CHECK.throwsNoSuch("count -1", () -> x.count(-1));
    }

    private static void mays() {
        IslandHall x = Check.hall("people 3;may a free turner;may c dayer;fact not a is turner;", "c is dayer;");
        long[] byText = {20, 3, 8};
        long[] byWorlds = {16, 3, 8};
        for (int i = 0; i < 3; i++) {
            int who = i;
            CHECK.due("may by the text " + who, () -> x.may(who, 0), byText[who]);
            CHECK.due("may by worlds " + who, () -> x.may(who, 1), byWorlds[who]);
        }
        x.says(1, 0);
        CHECK.due("honest now", () -> x.may(1, 1), 1);
        CHECK.due("by the text still", () -> x.may(1, 0), 3);
        CHECK.throwsNoSuch("nobody", () -> x.may(3, 0));
        CHECK.throwsNoSuch("nobody below", () -> x.may(-1, 1));
        CHECK.throwsNoSuch("another what", () -> x.may(0, 2));
        CHECK.throwsNoSuch("another what below", () -> x.may(0, -1));
    }
}
