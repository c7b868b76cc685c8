import java.lang.reflect.Constructor;
import java.lang.reflect.Field;
import java.lang.reflect.Method;
import java.lang.reflect.Modifier;
import java.util.TreeSet;

/** Promise 1, and that the class shows the document's face and no more. */
public final class FaceTest {
    private static final String NAMES = "feed gorge law work heard fault undo told bay cry would ahead lasts ripe plan"
            + " planned whose listen interval pairs chord way round ears prices share loudest kindest grown room"
            + " century span image restore status count";

    public static void main(String[] args) {
        Check check = new Check();
        face(check);
        newObject(check);
        check.end();
    }

    private static void face(Check check) {
        TreeSet<String> due = new TreeSet<>(java.util.Arrays.asList(NAMES.split(" ")));
        for (Method m : CryGorge.class.getDeclaredMethods()) {
            if (m.isSynthetic()) {
                continue;
            }
            boolean isPublic = Modifier.isPublic(m.getModifiers());
            check.same("public or private: " + m, isPublic || Modifier.isPrivate(m.getModifiers()) ? 1 : 0, 1);
            check.same("in the face: " + m, due.contains(m.getName()) == isPublic ? 1 : 0, 1);
            if (isPublic) {
                check.same("answers an int: " + m, m.getReturnType() == int.class ? 1 : 0, 1);
                due.remove(m.getName());
            }
        }
        check.same("methods missing: " + due, due.size(), 0);
        for (Field f : CryGorge.class.getDeclaredFields()) {
            boolean isNone = f.getName().equals("NONE");
            check.same("private: " + f, Modifier.isPrivate(f.getModifiers()) != isNone ? 1 : 0, 1);
        }
        for (Constructor<?> c : CryGorge.class.getDeclaredConstructors()) {
            check.same("public without parameters: " + c, Modifier.isPublic(c.getModifiers()) ? c.getParameterCount() : 1, 0);
        }
        check.same("NONE", CryGorge.NONE, -1);
        check.same("final", Modifier.isFinal(CryGorge.class.getModifiers()) ? 1 : 0, 1);
    }

    private static void newObject(Check check) {
        CryGorge x = new CryGorge();
        int[] told = {0, 0, 0, 21, 3, 0, 0, 0, 0, 0, 0};
        for (int what = 0; what < told.length; what++) {
            check.same("told(" + what + ")", x.told(what), told[what]);
        }
        check.same("fault()", x.fault(), -1);
        check.same("undo()", x.undo(), -1);
        check.same("restore()", x.restore(), -1);
        check.same("room()", x.room(), 0);
        check.same("grown()", x.grown(), 0);
        check.same("ears()", x.ears(), 0);
        check.same("plan(0)", x.plan(0), 0);
        check.same("chord(0, 0)", x.chord(0, 0), 1);
        check.same("would by the usual law", x.would(20, 3, 1, 99, 60, 400, 5, 300), 21);
        for (int what = -1; what <= 3; what++) {
            check.same("count(" + what + ")", x.count(what), what < 0 || what > 2 ? -1 : 0);
        }
        check.noSuch("bay(0, 9)", () -> x.bay(0, 9));
        check.noSuch("cry(0, 9)", () -> x.cry(0, 9));
        check.same("status(0)", x.status(0), 2);
        check.same("status(1)", x.status(1), 0);
    }
}
