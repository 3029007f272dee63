import java.lang.reflect.Constructor;
import java.lang.reflect.Field;
import java.lang.reflect.Method;
import java.lang.reflect.Modifier;
import java.util.List;
import java.util.Set;
import java.util.TreeSet;

/** The public face is the document's and no more; calls make no objects to speak of. */
public final class FaceTest {
    private static final Set<String> DUE = new TreeSet<>(List.of("int feed(int,int,int,int,int)", "int island(int)",
            "int sentence(int)", "int fault()", "int count(int)", "int may(int,int)", "int says(int,int)",
            "int answers(int,int,int)", "int back()", "int worlds(int)", "int world(int,int)", "int told(int)",
            "int can(int)", "int could(int,int)", "int needless()", "int enough(int)", "int knots()", "int knot(int)",
            "int question(int,int)", "int fewest(int)", "int first()", "boolean hide(int,int)", "int reply(int)",
            "int riddle(int)", "int line(int)"));

    public static void main(String[] args) {
        Check check = new Check();
        face(check);
        room(check);
        check.end();
    }

    private static void face(Check check) {
        Set<String> found = new TreeSet<>();
        Set<String> names = new TreeSet<>();
        Set<String> twice = new TreeSet<>();
        for (Method m : IslandHall.class.getDeclaredMethods()) {
            if (Modifier.isPrivate(m.getModifiers())) {
                twice.add(m.getName());
                continue;
            }
            StringBuilder s = new StringBuilder(m.getReturnType() + " " + m.getName() + "(");
            for (Class<?> c : m.getParameterTypes()) {
                s.append(s.charAt(s.length() - 1) == '(' ? "" : ",").append(c);
            }
            found.add(s + ")");
            names.add(m.getName());
        }
        twice.retainAll(names);
        check.due("the methods " + found, () -> found.equals(DUE) ? 1 : 0, 1);
        check.due("private ones named as public ones " + twice, twice::size, 0);
        int open = 0;
        for (Field f : IslandHall.class.getDeclaredFields()) {
            open += Modifier.isPrivate(f.getModifiers()) ? 0 : 1;
        }
        int fields = open;
        check.due("fields that are not private", () -> fields, 1);
        check.due("NONE", () -> IslandHall.NONE, -1);
        Constructor<?>[] made = IslandHall.class.getDeclaredConstructors();
        check.due("constructors", () -> made.length, 1);
        check.due("final", () -> Modifier.isFinal(IslandHall.class.getModifiers()) ? 1 : 0, 1);
        for (Class<?> inside : IslandHall.class.getDeclaredClasses()) {
            check.due(inside + " is static", () -> Modifier.isStatic(inside.getModifiers()) ? 1 : 0, 1);
        }
    }

    /** One object and its 512 calls stay far below a room of 7.3 million elements. */
    private static void room(Check check) {
        com.sun.management.ThreadMXBean bean =
                (com.sun.management.ThreadMXBean) java.lang.management.ManagementFactory.getThreadMXBean();
        long id = Thread.currentThread().getId();
        String island = "people 6;may a turner honest;may b turner honest;may c turner liar;roads 2;";
        IslandHall[] hall = {Check.hall(island, "told 0 or a says (told 1);", "b is liar;")};
        work(hall[0]);
        long before = bean.getThreadAllocatedBytes(id);
        hall[0] = new IslandHall();
        long made = bean.getThreadAllocatedBytes(id) - before;
        check.due("bytes of a new object, " + made, () -> made < 400_000 ? 1 : 0, 1);
        hall[0] = Check.hall(island, "told 0 or a says (told 1);", "b is liar;");
        long ready = bean.getThreadAllocatedBytes(id);
        for (int i = 0; i < 20; i++) {
            work(hall[0]);
        }
        long used = bean.getThreadAllocatedBytes(id) - ready;
        check.due("bytes that calls made, " + used, () -> used < 20_000 ? 1 : 0, 1);
    }

    private static void work(IslandHall hall) {
        hall.says(0, 0);
        hall.answers(1, 1, 1);
        hall.question(0, 0);
        hall.question(2, 1);
        hall.needless();
        hall.enough(0);
        hall.knots();
        hall.told(0);
        hall.could(0, 0);
        hall.fewest(0);
        hall.riddle(0);
        hall.hide(0, 1);
        hall.reply(0);
        hall.back();
        hall.back();
        hall.back();
    }
}
