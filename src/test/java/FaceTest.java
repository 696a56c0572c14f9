import java.lang.reflect.Constructor;
import java.lang.reflect.Field;
import java.lang.reflect.Method;
import java.lang.reflect.Modifier;
import java.util.Arrays;
import java.util.Set;
import java.util.TreeSet;

/** The public face is the document's, with nothing more to be seen from outside (LANGUAGE.md, rules 1, 5 and 11). */
public final class FaceTest {
    private static final Due CHECK = new Due();
    private static final String[] FACE = {
        "int coach 2", "boolean flags 3", "boolean quota 3", "int book 3", "int agencyBook 4", "int bookSeat 4",
        "int bookGroup 4", "int offerChanges 3", "int bookChanges 3", "int wish 2", "boolean print 1",
        "boolean cancel 1", "boolean shorten 3", "int seatOf 2", "int block 4", "boolean unblock 4",
        "int removeCoach 1", "int standing 1", "int load 2", "int free 2", "int moved 0", "int manifest 2",
        "int ride 2"};

    public static void main(String[] args) {
        constants();
        methods();
        inside();
        CHECK.end();
    }

    private static void constants() {
        CHECK.due("NONE", SeatDesk.NONE, -1);
        CHECK.due("WRONG", SeatDesk.WRONG, -2);
        CHECK.due("FULL", SeatDesk.FULL, -3);
        CHECK.due("BROKEN", SeatDesk.BROKEN, -4);
        CHECK.due("OVER", SeatDesk.OVER, -5);
        int open = 0;
        for (Field f : SeatDesk.class.getDeclaredFields()) {
            open += Modifier.isPrivate(f.getModifiers()) ? 0 : 1;
            CHECK.due("a static field is final: " + f.getName(), !Modifier.isStatic(f.getModifiers()) || Modifier.isFinal(f.getModifiers()), true);
        }
        CHECK.due("fields that are not private", open, 5);
    }

    private static void methods() {
        CHECK.due("public and final", SeatDesk.class.getModifiers() & (Modifier.PUBLIC | Modifier.FINAL), Modifier.PUBLIC | Modifier.FINAL);
        Set<String> open = new TreeSet<>();
        Set<String> openNames = new TreeSet<>();
        for (Method m : SeatDesk.class.getDeclaredMethods()) {
            if (!Modifier.isPrivate(m.getModifiers())) {
                open.add(m.getReturnType() + " " + m.getName() + " " + m.getParameterCount());
                openNames.add(m.getName());
                CHECK.due("public: " + m.getName(), Modifier.isPublic(m.getModifiers()) && !Modifier.isStatic(m.getModifiers()), true);
                CHECK.due("exceptions told by " + m.getName(), m.getExceptionTypes().length, m.getName().equals("ride") ? 1 : 0);
            }
        }
        CHECK.due("the methods are those of the document: " + open, open.equals(new TreeSet<>(Arrays.asList(FACE))), true);
        for (Method m : SeatDesk.class.getDeclaredMethods()) {
            CHECK.due("private with a public name: " + m.getName(), Modifier.isPrivate(m.getModifiers()) && openNames.contains(m.getName()), false);
        }
        Constructor<?>[] made = SeatDesk.class.getDeclaredConstructors();
        CHECK.due("constructors", made.length, 1);
        CHECK.due("its parameters", made[0].getParameterCount(), 1);
    }

    private static void inside() {
        Class<?>[] classes = SeatDesk.class.getDeclaredClasses();
        CHECK.due("some twelve classes at most", classes.length <= 12, true);
        for (Class<?> c : classes) {
            CHECK.due("private and static: " + c.getName(), Modifier.isPrivate(c.getModifiers()) && Modifier.isStatic(c.getModifiers()), true);
            for (Method m : c.getDeclaredMethods()) {
                CHECK.due("parameters of " + m.getName(), m.getParameterCount() <= 7, true);
            }
        }
    }
}
