import java.lang.reflect.Constructor;
import java.lang.reflect.Field;
import java.lang.reflect.Method;
import java.lang.reflect.Modifier;
import java.util.ArrayList;
import java.util.Arrays;
import java.util.HashSet;
import java.util.List;
import java.util.Set;
import java.util.TreeSet;

/** The public face: just the document's constants, constructor and methods, with their throws clauses. */
public final class FaceTest {
    private static final String[] CONSTANTS = {
        "NONE=-1", "OPEN=0", "COVERED=1", "TANK=2", "COAL=0", "GRAIN=1", "OIL=2", "WORK=1", "SHUT=2", "SHALLOW=3",
        "WIDE=4", "WEAK=5", "FUEL=6", "MEET=7", "LOCK=8", "AGROUND=9"};

    // The answer, the name, the arguments (i int, z boolean), and the exceptions by their first letters but one.
    private static final String[] METHODS = {
        "void reach(iiiiz) BAS", "void lock(iiiz) BAS", "int dredge(ii) BAS", "int stage(ii) A", "int weather(iiz) BA",
        "boolean fog(z) ", "int bank(iii) BAS", "int barge(iii) BAS", "int contract(iiiiii) BAS", "int divert(ii) BA",
        "int load(iii) BAS", "int unload(i) BS", "int clean(i) BS", "int boat(iii) BAS", "int fuel(ii) BAS",
        "int wide(ii) BAS", "int couple(ii) BS", "int drop(iii) BS", "boolean radio(iiz) BA", "int go(ii) B",
        "int pass(i) AS", "int water(ii) BA", "int most(iz) B", "int hours(ii) B", "int bars(i) B", "int ofBoat(ii) B",
        "int waited(ii) B", "int ofBarge(ii) B", "int placeAnew(i) B", "int shifts(ii) BA", "int shiftsAnew(ii) BA",
        "int ofContract(ii) B", "int all(i) B"};

    public static void main(String[] args) throws IllegalAccessException {
        Check.due("public and final", Modifier.isFinal(Towmaster.class.getModifiers())
                && Modifier.isPublic(Towmaster.class.getModifiers()), true);
        Check.due("without a package", Towmaster.class.getPackageName().isEmpty(), true);
        constants();
        constructors();
        methods();
        noPrivateMethodBearsAPublicName();
        Check.end("FaceTest");
    }

    private static void constants() throws IllegalAccessException {
        List<String> found = new ArrayList<>();
        for (Field field : Towmaster.class.getDeclaredFields()) {
            boolean isStatic = Modifier.isStatic(field.getModifiers());
            if (isStatic) {
                Check.due(field.getName() + " is final", Modifier.isFinal(field.getModifiers()), true);
            }
            if (Modifier.isPrivate(field.getModifiers())) {
                continue;
            }
            Check.due(field.getName() + " is public, static, an int",
                    Modifier.isPublic(field.getModifiers()) && isStatic && field.getType() == int.class, true);
            found.add(field.getName() + "=" + field.get(null));
        }
        same("constants", found, CONSTANTS);
    }

    private static void constructors() {
        Constructor<?>[] all = Towmaster.class.getDeclaredConstructors();
        Check.due("constructors", all.length, 1);
        Check.due("without arguments", all[0].getParameterCount(), 0);
        Check.due("public", Modifier.isPublic(all[0].getModifiers()), true);
    }

    private static void methods() {
        List<String> found = new ArrayList<>();
        for (Method method : Towmaster.class.getDeclaredMethods()) {
            if (!Modifier.isPrivate(method.getModifiers())) {
                Check.due(method.getName() + " is public alone", method.getModifiers(), Modifier.PUBLIC);
                found.add(written(method));
            }
        }
        same("methods", found, METHODS);
    }

    private static String written(Method method) {
        StringBuilder text = new StringBuilder(method.getReturnType() + " " + method.getName() + "(");
        for (Class<?> type : method.getParameterTypes()) {
            text.append(type == int.class ? 'i' : type == boolean.class ? 'z' : '?');
        }
        text.append(") ");
        for (Class<?> thrown : method.getExceptionTypes()) {
            text.append(thrown == IndexOutOfBoundsException.class ? 'B'
                    : thrown == IllegalArgumentException.class ? 'A'
                    : thrown == IllegalStateException.class ? 'S' : '?');
        }
        return text.toString();
    }

    private static void same(String what, List<String> found, String[] due) {
        Set<String> more = new TreeSet<>(found);
        more.removeAll(Arrays.asList(due));
        Set<String> less = new TreeSet<>(Arrays.asList(due));
        less.removeAll(found);
        if (!more.isEmpty() || !less.isEmpty()) {
            Check.fail(what + ": too many " + more + ", missing " + less);
        }
        Check.due(what, found.size(), due.length);
    }

    private static void noPrivateMethodBearsAPublicName() {
        Set<String> open = new HashSet<>();
        for (Method method : Towmaster.class.getDeclaredMethods()) {
            if (Modifier.isPublic(method.getModifiers())) {
                open.add(method.getName());
            }
        }
        List<Class<?>> all = new ArrayList<>(Arrays.asList(Towmaster.class.getDeclaredClasses()));
        for (Class<?> inside : all) {
            Check.due(inside.getName() + " is static and not public", Modifier.isStatic(inside.getModifiers())
                    && !Modifier.isPublic(inside.getModifiers()), true);
        }
        all.add(Towmaster.class);
        for (Class<?> each : all) {
            for (Method method : each.getDeclaredMethods()) {
                boolean isOfTheFace = each == Towmaster.class && Modifier.isPublic(method.getModifiers());
                if (!isOfTheFace && open.contains(method.getName())) {
                    Check.fail(each.getName() + "." + method.getName() + " bears the name of a public method");
                }
            }
        }
    }
}
