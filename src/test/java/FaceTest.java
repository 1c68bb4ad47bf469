import java.lang.reflect.Constructor;
import java.lang.reflect.Field;
import java.lang.reflect.Method;
import java.lang.reflect.Modifier;
import java.util.Map;
import java.util.Set;
import java.util.TreeSet;

/** The public face, as the document writes it. */
public final class FaceTest {
    private static final Checks checks = new Checks();

    private static final Set<String> METHODS = Set.of(
        "putIn(int,int)", "cutOut(int)", "change(int,int)", "chapter(int,boolean)", "notice(int,int)",
        "book(int,int)", "empty(int)", "read()", "listener(int,int)", "load(int,boolean)",
        "sentence(int,int)", "marked(int)", "booked(int,int)", "ofNotice(int,int)", "of(int,int)",
        "count(int)", "heard(int,int)", "whenHeard(int,int)", "heardAt(int,int,int)", "chapterAt(int,int)",
        "open(int,int,int)", "wrongAt(int,int,int)", "ifBooked(int,int)", "bestBreak(int,int)", "enough(int)",
        "put(long)", "wipe()", "fault()", "undo()", "save(int)", "restore(int)");

    private static final Map<String, Integer> CONSTANTS = Map.of(
        "NO_SUCH", -1, "BAD_VALUE", -2, "BAD_TEXT", -3, "TOO_MANY", -4, "NOT_POSSIBLE", -5, "NONE", -6);

    public static void main(String[] args) throws IllegalAccessException {
        int modifiers = NoticeShifts.class.getModifiers();
        checks.holds("the class is public and final", Modifier.isPublic(modifiers) && Modifier.isFinal(modifiers));
        constructors();
        methods();
        fields();
        classesInside();
        checks.finish();
    }

    private static void constructors() {
        Constructor<?>[] constructors = NoticeShifts.class.getDeclaredConstructors();
        checks.due("constructors", constructors.length, 1);
        checks.due("its parameters", constructors[0].getParameterCount(), 0);
        checks.holds("it is public", Modifier.isPublic(constructors[0].getModifiers()));
    }

    private static void methods() {
        Set<String> found = new TreeSet<>();
        Set<String> names = new TreeSet<>();
        for (Method method : NoticeShifts.class.getDeclaredMethods()) {
            if (Modifier.isPrivate(method.getModifiers())) {
                continue;
            }
            StringBuilder parameters = new StringBuilder();
            for (Class<?> type : method.getParameterTypes()) {
                parameters.append(parameters.length() == 0 ? "" : ",").append(type.getName());
            }
            found.add(method.getName() + "(" + parameters + ")");
            names.add(method.getName());
            checks.holds(method.getName() + " is public, of objects, and returns an int",
                Modifier.isPublic(method.getModifiers()) && !Modifier.isStatic(method.getModifiers())
                && method.getReturnType() == int.class);
        }
        checks.holds("the methods are those of the document: " + found, found.equals(METHODS));
        for (Method method : NoticeShifts.class.getDeclaredMethods()) {
            checks.holds(method.getName() + " is no private one with a public name",
                !Modifier.isPrivate(method.getModifiers()) || !names.contains(method.getName()));
        }
    }

    private static void fields() throws IllegalAccessException {
        int constants = 0;
        for (Field field : NoticeShifts.class.getDeclaredFields()) {
            if (Modifier.isPrivate(field.getModifiers())) {
                continue;
            }
            constants++;
            checks.holds(field.getName() + " is public, static, final and an int",
                Modifier.isPublic(field.getModifiers()) && Modifier.isStatic(field.getModifiers())
                && Modifier.isFinal(field.getModifiers()) && field.getType() == int.class);
            Integer due = CONSTANTS.get(field.getName());
            checks.holds(field.getName() + " is in the document", due != null);
            checks.due(field.getName(), field.getInt(null), due == null ? 0 : due);
        }
        checks.due("constants", constants, CONSTANTS.size());
    }

    private static void classesInside() {
        for (Class<?> inside : NoticeShifts.class.getDeclaredClasses()) {
            int modifiers = inside.getModifiers();
            checks.holds(inside.getName() + " is static and not public",
                Modifier.isStatic(modifiers) && !Modifier.isPublic(modifiers) && !Modifier.isProtected(modifiers));
        }
        checks.holds("at most twelve classes", NoticeShifts.class.getDeclaredClasses().length <= 11);
    }
}
