/** Promises 8 to 19: says, answers, back, worlds, world, told, can, could, needless, enough, knots, knot. */
public final class EventTest {
    private static final Check CHECK = new Check();

    public static void main(String[] args) {
        says();
        answers();
        twelveEvents();
        turns();
        days();
        back();
        worlds();
        toldSentences();
        expressions();
        told();
        could();
        needless();
        enough();
        knots();
        CHECK.end();
    }

    private static void says() {
        IslandHall x = Check.hall("people 2;", "a is liar or b is liar;", "a is liar;");
        CHECK.due("says", () -> x.says(0, 0), 0);
        CHECK.due("worlds", () -> x.worlds(1), 1);
        CHECK.due("a is honest", () -> x.world(0, 0), 0);
        CHECK.due("b is a liar", () -> x.world(0, 1), 1);
        CHECK.throwsNoSuch("nobody says", () -> x.says(2, 0));
        CHECK.throwsNoSuch("nobody below says", () -> x.says(-1, 0));
        CHECK.throwsNoSuch("no sentence", () -> x.says(0, 2));
        CHECK.throwsNoSuch("no sentence below", () -> x.says(0, -1));
        CHECK.due("no event came", () -> x.count(3), 1);
        CHECK.due("that can't be", () -> x.says(0, 1), 1);
        CHECK.due("no world", () -> x.worlds(1), 0);
        CHECK.due("facts stay", () -> x.worlds(0), 4);
    }

    private static void answers() {
        IslandHall x = Check.hall("people 1;roads 2;words;", "road 0;");
        CHECK.due("answers", () -> x.answers(0, 0, 1), 0);
        // honest: word 1 is yes on road 0, word 0 on road 1; a liar the other way
        CHECK.due("worlds", () -> x.worlds(1), 4);
        long[][] due = {{0, 0, 1}, {0, 1, 0}, {1, 0, 0}, {1, 1, 1}};
        for (int i = 0; i < 4; i++) {
            int w = i;
            CHECK.due("kind of " + w, () -> x.world(w, 0), due[w][0]);
            CHECK.due("road of " + w, () -> x.world(w, 16), due[w][1]);
            CHECK.due("word of " + w, () -> x.world(w, 18), due[w][2]);
        }
        CHECK.throwsNoSuch("word 2", () -> x.answers(0, 0, 2));
        CHECK.throwsNoSuch("word -1", () -> x.answers(0, 0, -1));
        CHECK.throwsNoSuch("nobody", () -> x.answers(1, 0, 0));
        CHECK.throwsNoSuch("no sentence", () -> x.answers(0, 1, 0));
        IslandHall y = Check.hall("people 1;roads 2;", "road 0;", "a is honest;");
        CHECK.due("without words 1 is no", () -> y.answers(0, 0, 1), 0);
        CHECK.due("honest on road 1, liar on road 0", () -> y.worlds(1), 2);
        CHECK.due("honest first", () -> y.world(0, 16), 1);
        CHECK.due("everyone says it is honest", () -> y.answers(0, 1, 0), 1);
        CHECK.due("so both fit", () -> y.worlds(1), 2);
        y.answers(0, 1, 1);
        CHECK.due("nobody says it isn't", () -> y.worlds(1), 0);
    }

    private static void twelveEvents() {
        IslandHall x = Check.hall("people 1;may a free;", "road 0;");
        for (int i = 0; i < 12; i++) {
            int due = i;
            boolean asked = i % 2 == 1;
            CHECK.due("event " + i, () -> asked ? x.answers(0, 0, 1) : x.says(0, 0), due);
        }
        CHECK.due("says, the 13th", () -> x.says(0, 0), -1);
        CHECK.due("answers, the 13th", () -> x.answers(0, 0, 0), -1);
        CHECK.throwsNoSuch("ahead of that nobody", () -> x.says(1, 0));
        CHECK.throwsNoSuch("ahead of that no word", () -> x.answers(0, 0, 2));
        CHECK.due("twelve", () -> x.count(3), 12);
        CHECK.due("the free one fits", () -> x.worlds(1), 1);
        CHECK.due("back", x::back, 11);
        CHECK.due("again", () -> x.says(0, 0), 11);
    }

    private static void turns() {
        IslandHall x = Check.hall("people 2;may a turner;may b honest;", "road 0;", "not road 0;");
        x.says(0, 0);
        CHECK.due("honest at first", () -> x.world(0, 8), 0);
        x.says(1, 0);
        CHECK.due("another's event is no turn", () -> x.could(0, 0), 0);
        x.answers(0, 0, 1);
        CHECK.due("a lie then", () -> x.worlds(1), 1);
        x.says(0, 0);
        CHECK.due("and the truth", () -> x.worlds(1), 1);
        x.says(0, 0);
        CHECK.due("and not again", () -> x.worlds(1), 0);
        x.back();
        x.says(0, 1);
        CHECK.due("turns are taken back", () -> x.worlds(1), 1);
        IslandHall y = Check.hall("people 1;may a turner;", "not road 0;");
        CHECK.due("the honest one is ahead", () -> y.world(0, 8), 0);
        CHECK.due("the other behind", () -> y.world(1, 8), 1);
        y.says(0, 0);
        CHECK.due("a liar at first", () -> y.world(0, 8), 1);
        CHECK.due("its kind", () -> y.world(0, 0), 2);
    }

    private static void days() {
        IslandHall x = Check.hall("people 2;may a dayer;may b liar;lies 0 2;", "day 2;", "a is dayer;");
        x.says(0, 1);
        CHECK.due("honest days", () -> x.can(2), 0b1111010);
        x.back();
        x.says(0, 0);
        CHECK.due("a lie on day 0", () -> x.can(2), 1);
        IslandHall y = Check.hall("people 1;may a dayer;", "road 0;");
        y.says(0, 0);
        CHECK.due("no days of lies", () -> y.worlds(1), 1);
    }

    private static void back() {
        IslandHall x = Check.hall("people 1;roads 2;", "road 0;", "told 0;");
        CHECK.due("none", x::back, -1);
        x.says(0, 0);
        x.says(0, 0);
        CHECK.due("one left", x::back, 1);
        CHECK.due("none left", x::back, 0);
        CHECK.due("none any more", x::back, -1);
        CHECK.due("all worlds", () -> x.worlds(1), 4);
        CHECK.due("nothing was told", () -> x.could(-1, 1), 0);
    }

    private static void worlds() {
        IslandHall x = Check.hall("people 2;may a liar turner;may b free honest;roads 2;lies 3;day 5;words;fact road 1;");
        CHECK.due("keep facts", () -> x.worlds(0), 12);
        CHECK.throwsNoSuch("worlds 2", () -> x.worlds(2));
        CHECK.throwsNoSuch("worlds -1", () -> x.worlds(-1));
        int[][] due = {{1, 0, 0}, {1, 0, 0}, {1, 4, 0}, {1, 4, 0}, {2, 0, 0}, {2, 0, 0}, {2, 4, 0}, {2, 4, 0}, {2, 0, 1},
            {2, 0, 1}, {2, 4, 1}, {2, 4, 1}};
        for (int i = 0; i < 12; i++) {
            int w = i;
            CHECK.due("a of " + w, () -> x.world(w, 0), due[w][0]);
            CHECK.due("b of " + w, () -> x.world(w, 1), due[w][1]);
            CHECK.due("a at first of " + w, () -> x.world(w, 8), due[w][2]);
            CHECK.due("b at first of " + w, () -> x.world(w, 9), 0);
            CHECK.due("road of " + w, () -> x.world(w, 16), 1);
            CHECK.due("day of " + w, () -> x.world(w, 17), 5);
            CHECK.due("word of " + w, () -> x.world(w, 18), w % 2);
        }
        for (int what : new int[] {-1, 2, 6, 7, 10, 14, 15, 19, Integer.MAX_VALUE, Integer.MIN_VALUE}) {
            CHECK.throwsNoSuch("world 0 " + what, () -> x.world(0, what));
        }
        CHECK.throwsNoSuch("world 12", () -> x.world(12, 16));
        CHECK.throwsNoSuch("world -1", () -> x.world(-1, 16));
        IslandHall y = Check.hall("people 7;");
        CHECK.due("the last of 128", () -> y.world(127, 0), 1);
        CHECK.due("g of the second", () -> y.world(1, 6), 1);
        CHECK.due("f of the second", () -> y.world(1, 5), 0);
        CHECK.due("g at first", () -> y.world(1, 14), 0);
        CHECK.throwsNoSuch("no 129th", () -> y.world(128, 0));
    }

    private static void toldSentences() {
        IslandHall x = Check.hall("people 2;roads 2;", "road 0;", "told 0;", "not told 1;", "told 2;");
        CHECK.due("told ahead of it", () -> x.could(-1, 1), 0);
        x.says(0, 1);
        CHECK.due("one's own sentence is not ahead: only liars say told 0", () -> x.may(0, 1), 2);
        x.back();
        x.says(0, 0);
        CHECK.due("as it was then", () -> x.could(-1, 1), 4 / 2);
        x.says(1, 2);
        CHECK.due("not told 1 was so", () -> x.may(1, 1), 1);
        x.says(1, 3);
        CHECK.due("told 2 is not so of itself", () -> x.worlds(1), 0);
        IslandHall y = Check.hall("people 1;may a turner;", "a says (road 0);", "told 0;", "a is turner;");
        y.says(0, 0);
        // honest: says it as it can; a liar at first can't say that the road is there, so it may say that it can
        CHECK.due("both begin so", () -> y.worlds(1), 2);
        CHECK.due("as it was then, not as it would be now", () -> y.could(-1, 1), 1);
    }

    private static void expressions() {
        IslandHall x = Check.hall("people 3;may c free dayer;lies 1;", "a as b;", "many liar=1;", "c says (road 1);",
                "a says (a says (road 0));", "not not day 1 or day 2 and day 3;", "(day 1 or day 2) and not day 2;",
                "many liar<1;", "many liar>1;", "a as a;", "word 1;", "road 3;");
        // 2 times 2 times 2 kinds, 7 days: 56 worlds
        int[] due = {28, 28, 28 + 4, 56, 8, 8, 14, 14, 56, 0, 0};
        for (int i = 0; i < due.length; i++) {
            int s = i;
            CHECK.due("so of sentence " + s, () -> x.could(-1, s), due[s]);
        }
    }

    private static void told() {
        IslandHall x = Check.hall("people 2;may a turner;roads 3;lies 1;words;fact not road 1;", "day 1;");
        CHECK.due("who: turners that begin otherwise are alike", () -> x.told(0), 2);
        CHECK.due("roads", () -> x.told(1), 2);
        CHECK.due("days", () -> x.told(2), 7);
        CHECK.due("words", () -> x.told(3), 2);
        CHECK.due("can: roads", () -> x.can(1), 5);
        CHECK.due("can: days", () -> x.can(2), 127);
        CHECK.due("can: words", () -> x.can(3), 3);
        x.says(1, 0);
        CHECK.due("an honest one on day 1, a liar on others", () -> x.told(2), 7);
        for (int what : new int[] {-1, 4}) {
            CHECK.throwsNoSuch("told " + what, () -> x.told(what));
        }
        for (int what : new int[] {-1, 0, 4}) {
            CHECK.throwsNoSuch("can " + what, () -> x.can(what));
        }
        IslandHall none = Check.hall("people 2;fact road 1;");
        for (int i = 0; i < 4; i++) {
            int what = i;
            CHECK.due("no world tells " + what, () -> none.told(what), 0);
        }
        CHECK.due("no road", () -> none.can(1), 0);
        CHECK.due("nobody can be anything", () -> none.may(0, 1), 0);
        IslandHall nobody = new IslandHall();
        CHECK.due("the row of nobody", () -> nobody.told(0), 1);
    }

    private static void could() {
        IslandHall x = Check.hall("people 3;may b turner;may c free;roads 2;", "road 0;", "a is honest;");
        CHECK.due("so", () -> x.could(-1, 0), 4);
        CHECK.due("a could say it", () -> x.could(0, 0), 4);
        CHECK.due("b could", () -> x.could(1, 0), 4);
        CHECK.due("a free one could", () -> x.could(2, 0), 8);
        CHECK.due("anyone could say that it is honest", () -> x.could(0, 1), 8);
        x.says(1, 0);
        CHECK.due("worlds left", () -> x.worlds(1), 4);
        CHECK.due("b couldn't again", () -> x.could(1, 0), 0);
        CHECK.throwsNoSuch("nobody", () -> x.could(3, 0));
        CHECK.throwsNoSuch("below NONE", () -> x.could(-2, 0));
        CHECK.throwsNoSuch("no sentence", () -> x.could(0, 2));
        CHECK.throwsNoSuch("no sentence of NONE", () -> x.could(-1, 2));
        CHECK.throwsNoSuch("no sentence below", () -> x.could(-1, -1));
    }

    private static void needless() {
        IslandHall x = Check.hall("people 2;may b turner;roads 2;", "road 0;", "a is honest;", "a is liar;");
        CHECK.due("none", x::needless, 0);
        x.says(0, 0);
        CHECK.due("one that bars", x::needless, 0);
        x.says(0, 0);
        CHECK.due("either alone is enough", x::needless, 3);
        x.says(0, 1);
        CHECK.due("nothing new", x::needless, 7);
        x.says(1, 0);
        CHECK.due("that is needed", x::needless, 7);
        x.says(0, 2);
        CHECK.due("nobody says it is a liar", x::needless, 15);
        IslandHall y = Check.hall("people 1;may a turner;", "road 0;");
        y.says(0, 0);
        y.answers(0, 0, 1);
        // left out, the first still counts as a turn, so the second tells as much
        CHECK.due("left out, it counts in turns", y::needless, 3);
    }

    private static void enough() {
        IslandHall x = Check.hall("people 2;roads 2;", "road 0;", "a is honest;", "b is honest;", "a as b;");
        CHECK.due("nothing said", () -> x.enough(0), 0);
        x.says(0, 1);
        x.says(1, 3);
        x.says(0, 2);
        x.says(1, 3);
        x.says(0, 0);
        // b says a as b: a is honest; a says b is honest: both are alike
        CHECK.due("answers", () -> x.told(0), 1);
        CHECK.due("the first pair", () -> x.enough(0), 0b00110);
        CHECK.due("the road", () -> x.enough(1), 0b10010);
        CHECK.due("the day is known", () -> x.enough(2), 0);
        CHECK.due("so is the word", () -> x.enough(3), 0);
        CHECK.throwsNoSuch("enough 4", () -> x.enough(4));
        CHECK.throwsNoSuch("enough -1", () -> x.enough(-1));
        IslandHall y = Check.hall("people 3;may c free;", "a is honest;", "b is honest;", "a is liar;");
        y.says(2, 0);
        y.says(1, 2);
        y.says(0, 1);
        y.says(0, 2);
        CHECK.due("as few answers as with all: none", () -> y.enough(0), 0b1000);
    }

    private static void knots() {
        IslandHall x = Check.hall("people 2;roads 2;", "road 0;", "not road 0;", "a is liar;", "b is honest;", "a as b;");
        CHECK.due("none", x::knots, 0);
        x.says(0, 0);
        x.says(0, 3);
        CHECK.due("none yet", x::knots, 0);
        x.says(0, 1);
        CHECK.due("one", x::knots, 1);
        CHECK.due("the first and the third", () -> x.knot(0), 0b101);
        x.says(1, 1);
        x.says(1, 2);
        x.says(0, 2);
        // the lone one is ahead, though its event is the last
        CHECK.due("the shortest first", () -> x.knot(0), 0b100000);
        CHECK.due("then the pair", () -> x.knot(1), 0b101);
        int number = x.knots();
        CHECK.throwsNoSuch("no more", () -> x.knot(number));
        CHECK.throwsNoSuch("below", () -> x.knot(-1));
        x.back();
        CHECK.due("without the lone one", () -> x.knot(0), 0b101);
        IslandHall y = Check.hall("people 1;fact road 1;", "road 0;");
        CHECK.due("facts alone can't be", y::knots, 1);
        CHECK.due("the empty set", () -> y.knot(0), 0);
        y.says(0, 0);
        CHECK.due("still just that", y::knots, 1);
        CHECK.throwsNoSuch("no other", () -> y.knot(1));
        manyKnots();
    }

    /** One says six times that it is a road, and six times that it isn't: each such pair is a knot. */
    private static void manyKnots() {
        IslandHall x = Check.hall("people 1;roads 2;", "a is liar;", "road 0;", "not road 0;");
        for (int i = 0; i < 6; i++) {
            x.says(0, 1);
            x.says(0, 2);
        }
        CHECK.due("pairs of six and six", x::knots, 36);
        for (int i = 0; i < 36; i++) {
            int at = i;
            CHECK.due("pair " + i, () -> x.knot(at), pair(at));
        }
    }

    private static long pair(int i) {
        int at = 0;
        for (int one = 0; one < 12; one++) {
            for (int other = one + 1; other < 12; other += 2) {
                if (at == i) {
                    return 1L << one | 1L << other;
                }
                at++;
            }
        }
        return -1;
    }
}
