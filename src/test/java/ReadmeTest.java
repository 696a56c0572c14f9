import java.io.IOException;
import java.lang.reflect.Method;
import java.lang.reflect.Modifier;
import java.nio.file.Files;
import java.nio.file.Path;
import java.util.ArrayList;
import java.util.List;

/** README.md tells the truth: its example answers as its comments say, and its table names every call. */
public final class ReadmeTest {
    private static final Due CHECK = new Due();
    private static List<String> readme;
    private static final List<String> EXAMPLE = new ArrayList<>();
    private static int line;

    public static void main(String[] args) throws IOException {
        readme = Files.readAllLines(Path.of("README.md"));
        int begin = readme.indexOf("```java");
        for (int k = begin + 1; !readme.get(k).equals("```"); k++) {
            EXAMPLE.add(readme.get(k));
        }
        example();
        table();
        CHECK.end();
    }

    private static void example() {
        SeatDesk desk = new SeatDesk(5);
        CHECK.due("the example begins with its train", EXAMPLE.get(line++).startsWith("SeatDesk desk = new SeatDesk(5);"), true);
        told("desk.coach(0, 2)", desk.coach(0, 2));
        told("desk.book(0, 2, 0)", desk.book(0, 2, 0));
        told("desk.book(3, 4, 0)", desk.book(3, 4, 0));
        told("desk.seatOf(1, 3)", desk.seatOf(1, 3));
        told("desk.book(1, 3, 0)", desk.book(1, 3, 0));
        told("desk.book(2, 4, 0)", desk.book(2, 4, 0));
        told("desk.seatOf(1, 3)", desk.seatOf(1, 3));
        told("desk.moved()", desk.moved());
        told("desk.print(1)", desk.print(1));
        told("desk.book(0, 4, 0)", desk.book(0, 4, 0));
        told("desk.coach(0, 1)", desk.coach(0, 1));
        told("desk.flags(1, 0, 4)", desk.flags(1, 0, 4));
        told("desk.wish(2, 4)", desk.wish(2, 4));
        told("desk.book(0, 4, 0)", desk.book(0, 4, 0));
        told("desk.offerChanges(0, 4, 0)", desk.offerChanges(0, 4, 0));
        told("desk.removeCoach(1)", desk.removeCoach(1));
        told("desk.seatOf(2, 1)", desk.seatOf(2, 1));
        told("desk.ride(2, 0)", desk.ride(2, 0));
        CHECK.due("lines of the example that are not tried here", EXAMPLE.size() - line, 0);
    }

    /** The next line of the example is this call, and its comment begins with this answer. */
    private static void told(String call, Object answer) {
        String said = line < EXAMPLE.size() ? EXAMPLE.get(line) : "";
        line++;
        boolean same = said.matches("\\Q" + call + ";\\E +// \\Q" + answer + "\\E(:.*)?");
        CHECK.due("\"" + said + "\" tells " + call + " with " + answer, same, true);
    }

    private static void table() {
        for (Method m : SeatDesk.class.getDeclaredMethods()) {
            if (Modifier.isPublic(m.getModifiers())) {
                int rows = 0;
                for (String row : readme) {
                    rows += row.matches("\\| `" + m.getName() + "\\([^)]*\\)` \\|.*") && parameters(row) == m.getParameterCount() ? 1 : 0;
                }
                CHECK.due("rows of the table for " + m.getName(), rows, 1);
            }
        }
    }

    private static int parameters(String row) {
        String inside = row.substring(row.indexOf('(') + 1, row.indexOf(')'));
        return inside.isEmpty() ? 0 : inside.split(",").length;
    }
}
