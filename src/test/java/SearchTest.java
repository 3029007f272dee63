import java.util.List;

/** Small islands full of turns and of what was told: fewest and riddles as the oracle finds them. */
public final class SearchTest {
    private static final List<String> KINDS = List.of("turner", "turner", "honest liar", "turner honest", "free liar",
            "dayer", "honest", "turner liar free");

    private static String expr(Dice dice, int people, int depth) {
        String one = String.valueOf((char) ('a' + dice.below(people)));
        switch (dice.below(depth > 0 ? 9 : 4)) {
            case 0:
                return "road " + dice.below(3);
            case 1:
                return "told " + dice.below(4);
            case 2:
                return one + " is " + dice.kind();
            case 3:
                return "word 0";
            case 4:
            case 5:
                return one + " says (" + expr(dice, people, depth - 1) + ")";
            case 6:
                return "not (" + expr(dice, people, depth - 1) + ")";
            case 7:
                return expr(dice, people, 0) + " and (" + expr(dice, people, depth - 1) + ")";
            default:
                return expr(dice, people, 0) + " or (" + expr(dice, people, depth - 1) + ")";
        }
    }

    public static void main(String[] args) {
        Check check = new Check();
        int runs = args.length > 0 ? Integer.parseInt(args[0]) : 3000;
        int[] found = new int[8];
        for (int run = 1; run <= runs && !check.failed(); run++) {
            Dice dice = new Dice(run);
            int people = 1 + dice.below(3);
            StringBuilder island = new StringBuilder("people " + people + ";roads " + (1 + dice.below(3)) + ";");
            for (int p = 0; p < people; p++) {
                island.append("may ").append((char) ('a' + p)).append(' ').append(dice.one(KINDS)).append(';');
            }
            island.append(dice.once(3) ? "words;" : "").append(dice.once(4) ? "lies 0 2;" : "");
            String[] sentences = new String[1 + dice.below(5)];
            for (int i = 0; i < sentences.length; i++) {
                sentences[i] = expr(dice, people, 3) + ";";
            }
            compare(check, "run " + run, dice, Check.hall(island.toString(), sentences), oracle(island.toString(), sentences), found);
        }
        for (int i = 0; i < found.length; i++) {
            int number = found[i];
            check.due("cases of sort " + i + " are many", () -> number > runs / 100 ? 1 : 0, 1);
        }
        check.end();
    }

    private static Oracle oracle(String island, String[] sentences) {
        Oracle o = new Oracle();
        feed(o, island);
        o.island(island.length());
        for (String s : sentences) {
            feed(o, s);
            o.sentence(s.length());
        }
        return o;
    }

    private static void feed(Oracle o, String text) {
        for (int i = 0; i < text.length(); i += 20) {
            int[] n = Check.numbers(text, i);
            o.feed(n[0], n[1], n[2], n[3], n[4]);
        }
    }

    private static void compare(Check check, String name, Dice dice, IslandHall x, Oracle o, int[] found) {
        int people = o.people;
        int sentences = o.count(2);
        for (int i = dice.below(7); i > 0; i--) {
            int who = dice.below(people);
            int s = dice.below(sentences);
            x.question(who, s);
            o.question(who, s);
        }
        for (int i = dice.below(3); i > 0; i--) {
            int who = dice.below(people);
            int s = dice.below(sentences);
            x.says(who, s);
            o.says(who, s);
            if (o.worlds(1) == 0) {
                x.back();
                o.back();
            }
        }
        for (int i = 0; i < 4; i++) {
            int what = i;
            int fewest = o.fewest(what);
            check.due(name + " fewest " + what, () -> x.fewest(what), fewest);
            check.due(name + " first " + what, x::first, o.first());
            found[Math.max(fewest, -1) + 1]++;
            int riddle = o.riddle(what);
            check.due(name + " riddle " + what, () -> x.riddle(what), riddle);
            for (int k = 0; k < riddle; k++) {
                int line = k;
                check.due(name + " line " + k, () -> x.line(line), o.line(line));
            }
            found[riddle == -1 ? 5 : riddle == 1 ? 6 : 7]++;
        }
    }
}
