/** Long runs of calls, each answered by the class and by the oracle. */
public final class OracleTest {
    private final Check check = new Check();
    private final Dice dice;
    private final int run;
    private final IslandHall hall = new IslandHall();
    private final Oracle oracle = new Oracle();
    private int calls = 0;

    private OracleTest(int run) {
        this.run = run;
        dice = new Dice(run);
    }

    private long same(String what, Check.Call ours, Check.Call due) {
        calls++;
        long want = Check.outcome(due);
        check.due("run " + run + " call " + calls + ": " + what, ours, want);
        return want;
    }

    private void feed(String text) {
        for (int i = 0; i < text.length(); i += 20) {
            int[] n = Check.numbers(text, i);
            same("feed", () -> hall.feed(n[0], n[1], n[2], n[3], n[4]), () -> oracle.feed(n[0], n[1], n[2], n[3], n[4]));
        }
    }

    private int lengthOf(String text) {
        return dice.once(60) ? dice.once(2) ? dice.edge() : dice.below(520) - 10 : text.length();
    }

    private boolean island() {
        String valid = dice.island(dice.once(9) ? dice.below(8) : 1 + dice.below(5));
        String text = dice.once(5) ? dice.spoilt(valid) : valid;
        feed(text);
        int n = lengthOf(text);
        boolean there = same("island " + text, () -> hall.island(n), () -> oracle.island(n)) == 0;
        same("fault", hall::fault, oracle::fault);
        return there;
    }

    private void sentence(int depth) {
        String valid = dice.expr(oracle.people, depth) + ";";
        String text = dice.once(6) ? dice.spoilt(valid) : valid;
        feed(text);
        int n = lengthOf(text);
        same("sentence " + text, () -> hall.sentence(n), () -> oracle.sentence(n));
        same("fault", hall::fault, oracle::fault);
    }

    private int who() {
        return dice.once(40) ? dice.edge() : dice.below(Math.max(1, oracle.people));
    }

    private int which() {
        return dice.once(40) ? dice.edge() : dice.below(Math.max(1, oracle.count(2)));
    }

    private void event() {
        int w = who();
        int s = which();
        int word = dice.once(30) ? dice.edge() : dice.below(2);
        if (dice.once(2)) {
            same("says " + w + " " + s, () -> hall.says(w, s), () -> oracle.says(w, s));
        } else {
            same("answers " + w + " " + s + " " + word, () -> hall.answers(w, s, word), () -> oracle.answers(w, s, word));
        }
        // An island that nothing fits has little to tell.
        if (!dice.once(12) && oracle.worlds(1) < 2) {
            same("back", hall::back, oracle::back);
        }
    }

    private void ask() {
        int w = who();
        int s = which();
        same("question " + w + " " + s, () -> hall.question(w, s), () -> oracle.question(w, s));
    }

    private int what() {
        return dice.once(25) ? dice.edge() : dice.below(4);
    }

    private void look() {
        int what = what();
        int i = dice.once(20) ? dice.edge() : dice.below(dice.once(3) ? 60 : 6) - 1;
        int who = dice.once(3) ? -1 : who();
        int s = which();
        switch (dice.below(13)) {
            case 0:
                int c = dice.once(20) ? dice.edge() : dice.below(10) - 1;
                same("count " + c, () -> hall.count(c), () -> oracle.count(c));
                break;
            case 1:
                same("may " + who + " " + what, () -> hall.may(who, what % 3), () -> oracle.may(who, what % 3));
                break;
            case 2:
                same("worlds " + what, () -> hall.worlds(what % 3), () -> oracle.worlds(what % 3));
                break;
            case 3:
                int part = dice.once(20) ? dice.edge() : dice.below(21) - 1;
                same("world " + i + " " + part, () -> hall.world(i, part), () -> oracle.world(i, part));
                break;
            case 4:
                same("told " + what, () -> hall.told(what), () -> oracle.told(what));
                break;
            case 5:
                same("can " + what, () -> hall.can(what), () -> oracle.can(what));
                break;
            case 6:
            case 7:
                same("could " + who + " " + s, () -> hall.could(who, s), () -> oracle.could(who, s));
                break;
            case 8:
                same("needless", hall::needless, oracle::needless);
                break;
            case 9:
                same("enough " + what, () -> hall.enough(what), () -> oracle.enough(what));
                break;
            case 10:
                same("knots", hall::knots, oracle::knots);
                break;
            case 11:
                same("knot " + i, () -> hall.knot(i), () -> oracle.knot(i));
                break;
            default:
                same("line " + i, () -> hall.line(i), () -> oracle.line(i));
                same("first", hall::first, oracle::first);
                break;
        }
    }

    private void search() {
        int what = what();
        if (dice.once(2)) {
            same("fewest " + what, () -> hall.fewest(what), () -> oracle.fewest(what));
            same("first", hall::first, oracle::first);
        } else {
            same("riddle " + what, () -> hall.riddle(what), () -> oracle.riddle(what));
            same("line 0", () -> hall.line(0), () -> oracle.line(0));
            same("line 1", () -> hall.line(1), () -> oracle.line(1));
        }
    }

    private void hidden() {
        int i = dice.once(20) ? dice.edge() : dice.below(dice.once(3) ? 200 : 8) - 1;
        int seed = dice.below(1 << 30) * 4 + dice.below(4);
        int q = dice.once(20) ? dice.edge() : dice.below(Math.max(1, oracle.count(4)));
        if (dice.once(4)) {
            same("hide " + i, () -> hall.hide(i, seed) ? 1 : 0, () -> oracle.hide(i, seed) ? 1 : 0);
        } else {
            same("reply " + q, () -> hall.reply(q), () -> oracle.reply(q));
        }
    }

    private boolean play() {
        while (calls < 200 && !check.failed()) {
            boolean there = island();
            if (!there && !dice.once(4)) {
                continue;
            }
            int number = dice.below(dice.once(12) ? 34 : 9);
            for (int i = 0; i < number; i++) {
                sentence(dice.below(4));
            }
            int asked = dice.below(dice.once(3) ? 13 : 5);
            for (int i = 0; i < asked; i++) {
                ask();
            }
            int steps = there ? dice.below(90) : 5;
            for (int i = 0; i < steps && calls < 480; i++) {
                step();
            }
        }
        return !check.failed();
    }

    private void step() {
        switch (dice.below(12)) {
            case 0:
            case 1:
            case 2:
                event();
                break;
            case 3:
            case 4:
                same("back", hall::back, oracle::back);
                break;
            case 5:
                search();
                break;
            case 6:
            case 7:
                hidden();
                break;
            default:
                look();
                break;
        }
    }

    public static void main(String[] args) {
        int runs = args.length > 0 ? Integer.parseInt(args[0]) : 250;
        int from = args.length > 1 ? Integer.parseInt(args[1]) : 0;
        int calls = 0;
        for (int run = from + 1; run <= from + runs; run++) {
            OracleTest test = new OracleTest(run);
            if (!test.play()) {
                test.check.end();
            }
            calls += test.calls;
        }
        System.out.println(runs + " runs, " + calls + " calls: all answers are as the oracle's");
    }
}
