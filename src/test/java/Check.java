import java.util.NoSuchElementException;

/** Counts answers that are not the due ones, and feeds texts. */
final class Check {
    /** A call whose answer is looked at; a boolean counts 1 or 0. */
    interface Call {
        long answer();
    }

    static final long NO_SUCH = Long.MIN_VALUE;
    static final long ILLEGAL = Long.MIN_VALUE + 1;

    private int wrong = 0;
    private int looked = 0;

    static long outcome(Call call) {
        try {
            return call.answer();
        } catch (NoSuchElementException e) {
            return NO_SUCH;
        } catch (IllegalArgumentException e) {
            return ILLEGAL;
        }
    }

    void due(String what, Call call, long due) {
        looked++;
        long got = outcome(call);
        if (got != due) {
            wrong++;
            if (wrong <= 40) {
                System.out.println(what + " answered " + name(got) + ", due is " + name(due));
            }
        }
    }

    void throwsNoSuch(String what, Call call) {
        due(what, call, NO_SUCH);
    }

    void throwsIllegal(String what, Call call) {
        due(what, call, ILLEGAL);
    }

    private static String name(long answer) {
        return answer == NO_SUCH ? "NoSuchElementException" : answer == ILLEGAL ? "IllegalArgumentException" : "" + answer;
    }

    boolean failed() {
        return wrong > 0;
    }

    void end() {
        System.out.println(looked + " answers looked at, " + wrong + " not as due");
        if (wrong > 0) {
            System.exit(1);
        }
    }

    /** The five numbers that feed() takes for twenty signs of a text from a place on, blanks behind its end. */
    static int[] numbers(String text, int from) {
        int[] five = new int[5];
        for (int i = 0; i < 20; i++) {
            int sign = from + i < text.length() ? text.charAt(from + i) : ' ';
            five[i / 4] = five[i / 4] << 8 | (sign & 255);
        }
        return five;
    }

    static void feed(IslandHall hall, String text) {
        for (int i = 0; i < text.length(); i += 20) {
            int[] n = numbers(text, i);
            hall.feed(n[0], n[1], n[2], n[3], n[4]);
        }
    }

    /** All that can be looked at without a change, but for the tape and the latest fault. */
    static String sight(IslandHall hall) {
        StringBuilder s = new StringBuilder();
        for (int what : new int[] {0, 1, 2, 3, 4, 6, 7}) {
            s.append(hall.count(what)).append(' ');
        }
        for (int who = 0; who < hall.count(0); who++) {
            s.append(hall.may(who, 0)).append(' ').append(hall.may(who, 1)).append(' ');
        }
        s.append(hall.worlds(0)).append(' ').append(hall.worlds(1)).append(' ');
        for (int what = 1; what < 4; what++) {
            s.append(hall.can(what)).append(' ');
        }
        for (int i = 0; i < hall.count(2); i++) {
            s.append(hall.could(IslandHall.NONE, i)).append(' ');
            for (int who = 0; who < hall.count(0); who++) {
                s.append(hall.could(who, i)).append(' ');
            }
        }
        s.append(hall.needless()).append(' ').append(hall.knots()).append(' ').append(hall.first()).append(' ');
        return s.append(outcome(() -> hall.line(0))).append(' ').append(outcome(() -> hall.line(1))).toString();
    }

    /** Nothing that can be looked at is another than it was before. */
    void same(String what, IslandHall hall, String before) {
        looked++;
        String now = sight(hall);
        if (!now.equals(before)) {
            wrong++;
            System.out.println(what + " changed " + before + " to " + now);
        }
    }

    static int island(IslandHall hall, String text) {
        feed(hall, text);
        return hall.island(text.length());
    }

    static int sentence(IslandHall hall, String text) {
        feed(hall, text);
        return hall.sentence(text.length());
    }

    /** A new object with an island and sentences that have no fault. */
    static IslandHall hall(String island, String... sentences) {
        IslandHall hall = new IslandHall();
        if (island(hall, island) != 0) {
            throw new IllegalStateException("a fault at " + hall.fault() + " of " + island);
        }
        for (String s : sentences) {
            if (sentence(hall, s) < 0) {
                throw new IllegalStateException("a fault at " + hall.fault() + " of " + s);
            }
        }
        return hall;
    }
}
