/** Many texts, most of them with a fault, read by the class and by the oracle. */
public final class TextTest {
    public static void main(String[] args) {
        Check check = new Check();
        Dice dice = new Dice(77);
        int[] faults = new int[7];
        for (int run = 0; run < 20000; run++) {
            IslandHall hall = new IslandHall();
            Oracle oracle = new Oracle();
            int people = dice.below(8);
            String valid = dice.island(people);
            String text = dice.once(8) ? valid : dice.spoilt(valid);
            read(check, hall, oracle, text, true, faults);
            String base = "people " + dice.below(5) + ";";
            if (oracle.count(0) == 0) {
                read(check, hall, oracle, base, true, faults);
            }
            for (int i = 0; i < 3; i++) {
                String sentence = dice.expr(oracle.people, dice.below(4)) + ";";
                read(check, hall, oracle, dice.once(8) ? sentence : dice.spoilt(sentence), false, faults);
            }
        }
        for (int f = 0; f < faults.length; f++) {
            int number = faults[f];
            check.due("texts with fault " + f + " are many", () -> number > 20 ? 1 : 0, 1);
        }
        check.end();
    }

    private static void read(Check check, IslandHall hall, Oracle oracle, String text, boolean island, int[] faults) {
        if (text.length() > 500) {
            return;
        }
        Check.feed(hall, text);
        for (int i = 0; i < text.length(); i += 20) {
            int[] n = Check.numbers(text, i);
            oracle.feed(n[0], n[1], n[2], n[3], n[4]);
        }
        int due = island ? oracle.island(text.length()) : oracle.sentence(text.length());
        check.due(text, () -> island ? hall.island(text.length()) : hall.sentence(text.length()), due);
        check.due("fault of " + text, hall::fault, oracle.fault());
        check.due("worlds of " + text, () -> hall.worlds(0), oracle.worlds(0));
        faults[island ? due : Math.max(0, -1 - due)]++;
    }
}
