/** Promises 20 to 26: question, fewest, first, hide, reply, riddle, line. */
public final class AskTest {
    private static final Check CHECK = new Check();

    public static void main(String[] args) {
        question();
        fewest();
        fewestKeeps();
        fewestWithTurns();
        fewestBehindTwelve();
        tooMany();
        hide();
        reply();
        replyOfFree();
        riddle();
        riddleKeeps();
        riddleOrder();
        riddleLimits();
        CHECK.end();
    }

    private static void question() {
        IslandHall x = Check.hall("people 2;", "a is liar;");
        for (int i = 0; i < 10; i++) {
            int due = i;
            CHECK.due("question " + i, () -> x.question(1, 0), due);
        }
        CHECK.due("the 11th", () -> x.question(0, 0), -1);
        CHECK.throwsNoSuch("nobody", () -> x.question(2, 0));
        CHECK.throwsNoSuch("nobody below", () -> x.question(-1, 0));
        CHECK.throwsNoSuch("no sentence", () -> x.question(0, 1));
        CHECK.due("ten", () -> x.count(4), 10);
    }

    private static void fewest() {
        IslandHall x = Check.hall("people 1;roads 4;", "a says (road 0 or road 1);", "a says (road 0 or road 2);", "road 0;");
        CHECK.due("without questions", () -> x.fewest(1), -1);
        x.question(0, 2);
        x.question(0, 1);
        x.question(0, 0);
        CHECK.due("two tell the road", () -> x.fewest(1), 2);
        CHECK.due("the least to begin with", x::first, 1);
        CHECK.due("the day is known", () -> x.fewest(2), 0);
        CHECK.due("nothing to ask first", x::first, -1);
        CHECK.due("and who it is: three", () -> x.fewest(0), 3);
        // road 0 told straight is also the third question behind the other two
        CHECK.due("any may begin", x::first, 0);
        CHECK.throwsNoSuch("fewest 4", () -> x.fewest(4));
        CHECK.throwsNoSuch("fewest -1", () -> x.fewest(-1));
        CHECK.due("no event came", () -> x.count(3), 0);
        CHECK.due("no world was barred", () -> x.worlds(1), 8);
        IslandHall none = Check.hall("people 1;fact road 1;", "road 0;");
        CHECK.due("no world", () -> none.fewest(0), 0);
        IslandHall free = Check.hall("people 2;may a free;roads 2;", "road 0;", "b says (road 0);");
        free.question(0, 0);
        CHECK.due("a free one tells nothing", () -> free.fewest(1), -1);
        free.question(1, 1);
        CHECK.due("the other does", () -> free.fewest(1), 1);
        CHECK.due("it is asked", free::first, 1);
        IslandHall words = Check.hall("people 1;roads 2;words;", "a says (word 0);", "road 0;", "a is liar;");
        words.question(0, 2);
        words.question(0, 0);
        CHECK.due("one tells who", () -> words.fewest(3), 1);
        CHECK.due("whether it is a liar: its no", words::first, 0);
    }

    private static void fewestKeeps() {
        IslandHall x = Check.hall("people 1;roads 2;", "a says (road 0);", "road 0;");
        x.question(0, 0);
        CHECK.due("one", () -> x.fewest(1), 1);
        CHECK.due("first", x::first, 0);
        CHECK.due("who can't be told", () -> x.fewest(0), -1);
        CHECK.due("what is kept stays", x::first, 0);
        CHECK.throwsNoSuch("another answer", () -> x.fewest(9));
        CHECK.due("stays still", x::first, 0);
        x.says(0, 0);
        CHECK.due("stays with an event", x::first, 0);
        x.back();
        x.question(0, 1);
        CHECK.due("stays with a question", x::first, 0);
        CHECK.due("a fault", () -> Check.island(x, "people 1;roads 9;"), 2);
        CHECK.due("stays with a fault", x::first, 0);
    }

    private static void fewestWithTurns() {
        IslandHall x = Check.hall("people 1;may a turner;roads 2;", "road 0;", "a is liar;", "told 0;");
        x.question(0, 0);
        CHECK.due("asked twice it tells nothing new", () -> x.fewest(1), -1);
        x.question(0, 1);
        CHECK.due("who it is at first, then the road", () -> x.fewest(1), 2);
        CHECK.due("in any order", x::first, 0);
        IslandHall y = Check.hall("people 2;may a turner;may b honest;roads 2;", "road 0;", "told 0;", "told 2;");
        y.question(0, 0);
        y.question(1, 1);
        CHECK.due("the honest one tells what was told", () -> y.fewest(1), 2);
        CHECK.due("behind the turner", y::first, 0);
        y.says(0, 0);
        CHECK.due("an event is told: at once", () -> y.fewest(1), 1);
        CHECK.due("by the honest one", y::first, 1);
        y.back();
        CHECK.due("events change places", () -> y.fewest(1), 2);
    }

    private static void fewestBehindTwelve() {
        IslandHall x = Check.hall("people 2;may a honest;may b free;roads 2;", "road 0;");
        for (int i = 0; i < 12; i++) {
            x.says(1, 0);
        }
        x.question(0, 0);
        CHECK.due("no event more can be, but one question would tell", () -> x.fewest(1), 1);
        x.hide(0, 0);
        CHECK.due("it can't be asked", () -> x.reply(0), -1);
        CHECK.due("nor a riddle told", () -> x.riddle(1), -1);
    }

    private static void tooMany() {
        IslandHall x = Check.hall("people 7;", "a is liar;", "b is liar;");
        x.question(1, 0);
        CHECK.due("128 worlds", () -> x.fewest(2), -2);
        x.says(0, 1);
        CHECK.due("64", () -> x.fewest(2), 0);
        CHECK.due("three don't tell", () -> x.fewest(0), -1);
        IslandHall y = Check.hall("people 2;roads 4;lies 0;fact not day 6 and not (day 5 and road 0);", "a is liar;");
        CHECK.due("4 times 4 times 6 less 4", () -> y.worlds(1), 92);
        CHECK.due("not too many", () -> y.fewest(0), -1);
        IslandHall hundred = Check.hall("people 2;roads 4;lies 0;fact (not day 6 or a is liar and road 0 and b is honest"
                + " or a is honest and road 1 and b is liar or road 2 and a is liar and b is liar) or day 6 and road 3"
                + " and a is liar and b is liar;", "a is liar;");
        CHECK.due("just a hundred", () -> hundred.worlds(1), 100);
        CHECK.due("a hundred is not too many", () -> hundred.fewest(3), 0);
        IslandHall more = Check.hall("people 2;roads 4;lies 0;fact not day 6 or road 0 or road 1 and a is liar and b is liar;");
        CHECK.due("one more", () -> more.worlds(1), 101);
        CHECK.due("that is", () -> more.fewest(3), -2);
    }

    private static void hide() {
        IslandHall x = Check.hall("people 1;roads 2;", "road 0;", "a is liar;");
        x.question(0, 0);
        CHECK.due("nothing is hidden", () -> x.reply(0), -1);
        CHECK.due("no world 4", () -> x.hide(4, 0) ? 1 : 0, 0);
        CHECK.due("no world -1", () -> x.hide(-1, 0) ? 1 : 0, 0);
        CHECK.due("nothing yet", () -> x.count(7), 0);
        CHECK.due("the last", () -> x.hide(3, 0) ? 1 : 0, 1);
        CHECK.due("not there: stays", () -> x.hide(4, 0) ? 1 : 0, 0);
        // a liar, road 1: says yes to road 0
        CHECK.due("it replies", () -> x.reply(0), 0);
        CHECK.due("an event", () -> x.count(3), 1);
        CHECK.due("worlds that fit", () -> x.worlds(1), 2);
        CHECK.due("places are those of worlds that fit now", () -> x.hide(2, 0) ? 1 : 0, 0);
        x.says(0, 1);
        CHECK.due("an event that it doesn't fit", () -> x.worlds(1), 0);
        CHECK.due("stays hidden", () -> x.reply(0), 0);
    }

    private static void reply() {
        IslandHall x = Check.hall("people 2;may a turner;may b dayer;lies 3;words;", "road 0;", "told 0;", "word 0;");
        x.question(0, 0);
        x.question(1, 0);
        x.question(0, 1);
        // turner that lies at first, day 3, word 1 is yes
        int place = 14 + 2 * 3 + 1;
        CHECK.due("hidden", () -> x.hide(place, 5) ? 1 : 0, 1);
        CHECK.due("a lie: no", () -> x.reply(0), 0);
        CHECK.due("the truth: yes", () -> x.reply(0), 1);
        CHECK.due("a dayer on day 3: no", () -> x.reply(1), 0);
        CHECK.due("a lie about what was told: no", () -> x.reply(2), 0);
        CHECK.due("the truth about it: yes", () -> x.reply(2), 1);
        CHECK.due("five events", () -> x.count(3), 5);
        CHECK.due("it is among those that fit", () -> x.worlds(1) > 0 ? 1 : 0, 1);
        CHECK.throwsNoSuch("no question", () -> x.reply(3));
        CHECK.throwsNoSuch("no question below", () -> x.reply(-1));
        for (int i = 5; i < 12; i++) {
            x.says(0, 0);
        }
        CHECK.due("twelve events", () -> x.reply(0), -1);
        CHECK.throwsNoSuch("no question, ahead of that", () -> x.reply(3));
        IslandHall y = Check.hall("people 1;");
        CHECK.throwsNoSuch("no question, ahead of nothing hidden", () -> y.reply(0));
    }

    private static void replyOfFree() {
        IslandHall x = Check.hall("people 2;may a free;may b honest;words;", "road 0;");
        x.question(0, 0);
        x.question(1, 0);
        int seed = -123456789;
        x.hide(1, seed);
        for (int i = 0; i < 12; i++) {
            if (i == 4) {
                CHECK.due("an honest one takes no seed", () -> x.reply(1), 1);
                continue;
            }
            seed = seed * 1103515245 + 12345;
            int due = (seed >> 16 & 32767) % 2;
            CHECK.due("free " + i, () -> x.reply(0), due);
        }
        int last = seed;
        CHECK.due("no more", () -> x.reply(0), -1);
        x.back();
        int next = last * 1103515245 + 12345;
        CHECK.due("the seed goes on", () -> x.reply(0), next >> 16 & 1);
        x.back();
        x.hide(0, last);
        CHECK.due("a seed anew", () -> x.reply(0), next >> 16 & 1);
    }

    private static void riddle() {
        IslandHall x = Check.hall("people 2;", "a is honest;", "a as b;", "a is liar or b is liar;");
        CHECK.due("one saying", () -> x.riddle(0), 1);
        CHECK.due("the least", () -> x.line(0), 2);
        CHECK.throwsNoSuch("no second", () -> x.line(1));
        CHECK.throwsNoSuch("line -1", () -> x.line(-1));
        CHECK.due("no event came", () -> x.count(3), 0);
        IslandHall y = Check.hall("people 2;", "a is honest;", "a as b;");
        CHECK.due("two sayings", () -> y.riddle(0), 2);
        // a says a as b: b is honest; b says a is honest: both are
        CHECK.due("the first", () -> y.line(0), 1);
        CHECK.due("the second", () -> y.line(1), 30);
        CHECK.throwsNoSuch("no third", () -> y.line(2));
        CHECK.due("the road is known by any that can be said", () -> y.riddle(1), 1);
        CHECK.due("the least of these", () -> y.line(0), 0);
        IslandHall z = Check.hall("people 1;may a honest;", "road 1;", "road 0;");
        CHECK.due("some world must be left", () -> z.riddle(1), 1);
        CHECK.due("so the other", () -> z.line(0), 1);
        CHECK.throwsNoSuch("riddle 4", () -> z.riddle(4));
        CHECK.throwsNoSuch("riddle -1", () -> z.riddle(-1));
    }

    private static void riddleKeeps() {
        IslandHall x = Check.hall("people 2;", "a is honest;", "a as b;");
        x.riddle(0);
        x.says(0, 0);
        x.back();
        CHECK.due("kept", () -> x.line(1), 30);
        x.says(0, 1);
        x.says(0, 1);
        x.answers(0, 1, 1);
        CHECK.due("no world, no riddle", () -> x.riddle(0), -1);
        CHECK.due("kept still", () -> x.line(0), 1);
        CHECK.due("a fault", () -> Check.island(x, "people"), 1);
        CHECK.due("kept behind a fault", () -> x.line(1), 30);
        CHECK.due("a new one", () -> Check.island(x, "people 2;"), 0);
        CHECK.throwsNoSuch("gone", () -> x.line(0));
    }

    private static void riddleOrder() {
        IslandHall x = Check.hall("people 2;may a turner;may b honest;roads 3;", "told 0;", "road 0 or road 1;",
                "road 1 or road 2;", "told 1 and road 0 or road 2;");
        CHECK.due("one saying of b", () -> x.riddle(1), 1);
        CHECK.due("nothing being told yet it leaves road 2", () -> x.line(0), 33);
        IslandHall y = Check.hall("people 2;may a turner;may b honest;roads 3;", "told 0;", "road 0 or road 1;",
                "road 1 or road 2;");
        // whatever a says by turns leaves two roads
        CHECK.due("two sayings of b", () -> y.riddle(1), 2);
        CHECK.due("road 0 or 1", () -> y.line(0), 31);
        CHECK.due("road 1 or 2", () -> y.line(1), 32);
        IslandHall z = Check.hall("people 2;may a turner;may b honest;roads 2;", "told 0;", "road 0;");
        // a says that it is road 0, b that this was so: the turner's saying is told, and that comes first
        z.says(1, 0);
        CHECK.due("no world says told 0 first", () -> z.riddle(1), -1);
        z.back();
        CHECK.due("b alone", () -> z.riddle(1), 1);
        CHECK.due("b says the road", () -> z.line(0), 31);
        // the other way round they would tell the road
        IslandHall alone = Check.hall("people 1;may a honest;roads 4;", "told 0 and road 0;", "road 0 or road 1;");
        CHECK.due("not above the second's sentence", () -> alone.riddle(1), -1);
        IslandHall pair = Check.hall("people 2;may a liar;may b honest;roads 4;", "not (told 0 and road 0);",
                "road 0 or road 1;");
        CHECK.due("not above the second's person", () -> pair.riddle(1), -1);
        IslandHall twice = Check.hall("people 1;may a turner;roads 2;", "road 0 and told 0 or not road 0 and not told 0;");
        // honest at first: road 1, and told 0 was so, so a lie then; a liar at first: road 0, and no truth then
        CHECK.due("a turner says it twice", () -> twice.riddle(1), 2);
        CHECK.due("once", () -> twice.line(0), 0);
        CHECK.due("and again", () -> twice.line(1), 0);
    }

    private static void riddleLimits() {
        IslandHall x = Check.hall("people 2;may b free;roads 2;", "a says (road 0);", "road 0;");
        for (int i = 0; i < 10; i++) {
            x.says(1, 0);
        }
        CHECK.due("two more can be", () -> x.riddle(1), 1);
        x.says(1, 0);
        CHECK.due("just one more can be", () -> x.riddle(1), -1);
        CHECK.due("what is kept stays", () -> x.line(0), 0);
        IslandHall y = Check.hall("people 7;roads 3;", "road 0;", "a says (road 0);");
        CHECK.due("384 worlds", () -> y.riddle(1), -2);
        CHECK.throwsNoSuch("nothing is kept", () -> y.line(0));
        y.says(0, 0);
        CHECK.due("192 worlds", () -> y.worlds(1), 192);
        CHECK.due("two tell the road", () -> y.riddle(1), 1);
        IslandHall z = Check.hall("people 2;roads 4;lies 0;words;may a honest liar dayer;fact not (day 0 and road 0)"
                + " and not (day 0 and road 1);", "road 2;");
        CHECK.due("312 worlds", () -> z.worlds(1), 312);
        CHECK.due("are too many", () -> z.riddle(3), -2);
        IslandHall w = Check.hall("people 2;roads 4;lies 0;words;may a honest liar dayer;fact not (day 0 and road 0)"
                + " and not (day 0 and road 1) and not (day 0 and road 2);", "road 2;");
        CHECK.due("300 worlds", () -> w.worlds(1), 300);
        CHECK.due("are not", () -> w.riddle(3), -1);
        CHECK.due("and the day can't be told", () -> w.riddle(2), -1);
    }
}
