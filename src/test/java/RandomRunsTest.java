import java.lang.reflect.InvocationTargetException;
import java.lang.reflect.Method;
import java.lang.reflect.Modifier;
import java.util.HashMap;
import java.util.List;
import java.util.Map;

/**
 * Long runs of calls with good and wild arguments. One object is told and asked everything; its twin gets only
 * what the first did not refuse and what is not merely asked. Both must stay alike, hidden state with them.
 */
public final class RandomRunsTest {
    private static final String[] TOLD = {
        "reach", "lock", "dredge", "stage", "weather", "fog", "bank", "barge", "contract", "divert", "load", "unload",
        "clean", "boat", "fuel", "wide", "couple", "drop", "radio", "go", "pass"};
    private static final String[] ASKED = {
        "water", "most", "hours", "bars", "ofBoat", "waited", "ofBarge", "placeAnew", "shifts", "shiftsAnew",
        "ofContract", "all"};
    // What makes boats move is told more often than what only changes the river under them.
    private static final String[] OFTEN = {"load", "couple", "drop", "go", "go", "pass", "pass", "fuel", "unload"};
    private static final int CALLS = 450;
    private static final int[] WILD = {
        Integer.MIN_VALUE, Integer.MAX_VALUE, -1, 8, 24, 5001, 1 << 30, Integer.MIN_VALUE + 1, 63, 255};

    private static final Map<String, Method> METHODS = new HashMap<>();
    private static long seed;

    public static void main(String[] args) throws IllegalAccessException {
        for (Method method : Towmaster.class.getDeclaredMethods()) {
            if (Modifier.isPublic(method.getModifiers())) {
                METHODS.put(method.getName(), method);
            }
        }
        for (int run = 0; run < 300; run++) {
            seed = run * 7919L + 17;
            twins(run);
        }
        manyCalls();
        Check.end("RandomRunsTest");
    }

    private static int below(int bound) {
        seed = seed * 6364136223846793005L + 1442695040888963407L;
        return (int) ((seed >>> 33) % bound);
    }

    private static void twins(int run) throws IllegalAccessException {
        Towmaster one = new Towmaster();
        Towmaster twin = new Towmaster();
        int points = 2 + below(3);
        setUp(one, twin, points);
        for (int k = 0; k < CALLS; k++) {
            String where = "run " + run + ", call " + k;
            String name = pick(below(3) == 0 ? ASKED : below(2) == 0 ? OFTEN : TOLD);
            Object[] arguments = arguments(METHODS.get(name), points);
            String answer = answer(one, name, arguments);
            if (answer.startsWith("machine")) {
                Check.fail(where + " " + name + " threw " + answer);
            }
            if (!answer.startsWith("throws") && isTold(name)) {
                String other = answer(twin, name, arguments);
                Check.due(where + " " + name + " alike", other.equals(answer), true);
            }
            invariants(where, one);
        }
        Check.due("run " + run + ": both look alike", Check.picture(one).equals(Check.picture(twin)), true);
        Check.due("the refused and the asked left all as it was", hidden(one).equals(hidden(twin)), true);
    }

    private static void setUp(Towmaster one, Towmaster twin, int points) {
        for (Towmaster t : List.of(one, twin)) {
            for (int k = 0; k < 4; k++) {
                t.boat(3 + 2 * k, 1 + k, k % points);
                t.fuel(k, 900);
            }
            for (int k = 0; k < 12; k++) {
                t.barge(k % 3, k % points, k / 6);
                t.contract(k % 3, k % points, (k + 1) % points, 20 + k, 50 * k, 25 * k);
            }
            t.lock(0, 2, 2, true);
        }
    }

    private static String pick(String[] names) {
        return names[below(names.length)];
    }

    private static boolean isTold(String name) {
        return List.of(TOLD).contains(name);
    }

    private static Object[] arguments(Method method, int points) {
        Class<?>[] types = method.getParameterTypes();
        Object[] arguments = new Object[types.length];
        for (int k = 0; k < types.length; k++) {
            if (types[k] == boolean.class) {
                arguments[k] = below(4) == 0;
            } else {
                arguments[k] = number(points);
            }
        }
        String name = method.getName();
        if (name.equals("pass") && below(8) != 0) {
            arguments[0] = 1 + below(2);
        } else if (name.equals("stage") && below(4) != 0) {
            arguments[0] = below(20) - 5;
        } else if (name.equals("reach") && below(4) != 0) {
            arguments[2] = 15 + below(30);
        } else if (name.startsWith("shifts") && below(2) == 0) {
            arguments[1] = 1 << below(12) | 1 << below(12);
        }
        return arguments;
    }

    private static int number(int points) {
        int kind = below(20);
        if (kind == 0) {
            return WILD[below(WILD.length)];
        }
        return kind < 14 ? below(points) : below(14);
    }

    /** The answer as a text, throws and the exception's name, or machine and that of one which is not allowed. */
    private static String answer(Towmaster t, String name, Object[] arguments) throws IllegalAccessException {
        try {
            return String.valueOf(METHODS.get(name).invoke(t, arguments));
        } catch (InvocationTargetException e) {
            Class<?> thrown = e.getCause().getClass();
            for (Class<?> clause : METHODS.get(name).getExceptionTypes()) {
                if (clause == thrown && Check.isThrownByTowmaster(e.getCause())) {
                    return "throws " + thrown.getName();
                }
            }
            return "machine: " + e.getCause();
        }
    }

    private static void invariants(String where, Towmaster t) {
        barges(where, t);
        boats(where, t);
        shifts(where, t);
    }

    private static void barges(String where, Towmaster t) {
        int barges = Check.count(t, 'g');
        int contracts = Check.count(t, 'c');
        int[] cargo = new int[contracts];
        for (int barge = 0; barge < barges; barge++) {
            int contract = t.ofBarge(barge, 2);
            Check.due(where + " place anew of " + barge, t.placeAnew(barge), t.ofBarge(barge, 0));
            Check.due(where + " laden by a contract", t.ofBarge(barge, 1) > 0, contract != Towmaster.NONE);
            if (contract != Towmaster.NONE) {
                cargo[contract] += t.ofBarge(barge, 1);
            }
        }
        int paid = 0;
        for (int contract = 0; contract < contracts; contract++) {
            Check.due(where + " in barges", t.ofContract(contract, 1), cargo[contract]);
            paid += t.ofContract(contract, 3);
        }
        Check.due(where + " all paid", t.all(2), paid);
    }

    private static void boats(String where, Towmaster t) {
        int waited = 0;
        for (int boat = 0; boat < Check.count(t, 'b'); boat++) {
            boolean isAtPoint = t.ofBoat(boat, 0) != Towmaster.NONE;
            Check.due(where + " at a point or in a section", isAtPoint, t.ofBoat(boat, 1) == Towmaster.NONE);
            Check.due(where + " hours are left in a section", isAtPoint, t.ofBoat(boat, 9) == 0);
            Check.due(where + " fuel", t.ofBoat(boat, 3) >= 0 && t.ofBoat(boat, 3) <= 999, true);
            Check.due(where + " goal", isAtPoint && t.ofBoat(boat, 0) == t.ofBoat(boat, 2), false);
            for (int cause = Towmaster.WORK; cause <= Towmaster.AGROUND; cause++) {
                waited += t.waited(boat, cause);
            }
        }
        Check.due(where + " all waited", t.all(6), waited);
    }

    private static void shifts(String where, Towmaster t) {
        int barges = Check.count(t, 'g');
        for (int point = 0; point < 8; point++) {
            int set = 0;
            for (int barge = 0; barge < barges; barge++) {
                boolean isTiedThere = t.ofBarge(barge, 4) != Towmaster.NONE && t.ofBarge(barge, 0) == point;
                set |= isTiedThere && Integer.bitCount(set) < 4 && barge % 4 != 1 ? 1 << barge : 0;
            }
            Check.due(where + " shifts anew", t.shiftsAnew(point, set), t.shifts(point, set));
        }
    }

    /** What only a telling call answers; the object is done with after this. */
    private static String hidden(Towmaster t) {
        StringBuilder text = new StringBuilder();
        text.append(t.fog(false)).append(' ');
        for (int section = 0; section < 7; section++) {
            text.append(t.weather(section, 0, false)).append(' ');
        }
        for (int point = 0; point < 8; point++) {
            for (int tier = 0; tier < 2; tier++) {
                text.append(t.bank(point, tier, 5)).append(' ');
            }
        }
        for (int one = 0; one < 4; one++) {
            for (int other = one + 1; other < 4; other++) {
                text.append(t.radio(one, other, false)).append(' ');
            }
        }
        t.stage(10, 2);
        for (int boat = 0; boat < 4; boat++) {
            t.go(boat, boat);
        }
        for (int hour = 0; hour < 20 && t.all(0) < 4990; hour++) {
            t.pass(1);
            text.append(Check.picture(t));
        }
        return text.toString();
    }

    /** After the 512th call all answers are free, but none may break. */
    private static void manyCalls() {
        Towmaster t = new Towmaster();
        t.boat(9, 4, 0);
        t.barge(Towmaster.OPEN, 0, 0);
        for (int k = 0; k < 20000; k++) {
            t.couple(0, 0);
            t.drop(0, 0, 0);
        }
        Check.due("how much work", t.ofBoat(0, 4), 60000);
        t.placeAnew(0);
    }
}
