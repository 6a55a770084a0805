import java.lang.reflect.InvocationTargetException;
import java.lang.reflect.Method;
import java.lang.reflect.Modifier;
import java.util.Arrays;
import java.util.HashMap;
import java.util.List;
import java.util.Map;
import java.util.TreeMap;

/**
 * Towmaster beside a second reading of the document (Plain), told the same over long runs: each answer and each
 * exception is compared, and all that can be asked of both.
 */
public final class PlainTest {
    private static final int RUNS = 400;
    private static final int CALLS = 200;

    // What is told in a run of each kind: on the water, at the banks, in any way.
    private static final String[][] KINDS = {
        {"go", "go", "go", "pass", "pass", "pass", "fuel", "fuel", "radio", "weather", "stage", "fog", "couple", "drop",
            "reach", "lock", "boat", "wide", "barge"},
        {"load", "load", "load", "couple", "couple", "couple", "ship", "ship", "drop", "pass", "go", "unload", "unload",
            "clean", "divert", "barge", "bank", "contract", "fuel"},
        {"reach", "lock", "dredge", "stage", "weather", "fog", "bank", "barge", "contract", "divert", "load", "unload",
            "clean", "boat", "fuel", "wide", "couple", "drop", "radio", "go", "pass", "shifts", "shiftsAnew"}};

    // From what to what each argument is drawn; 1, 0 for those that stay points of the run.
    private static final Map<String, int[]> RANGES = Map.ofEntries(
        Map.entry("reach", new int[] {1, 0, 1, 3, 10, 40, 1, 4}), Map.entry("lock", new int[] {1, 0, 1, 3, 1, 3}),
        Map.entry("dredge", new int[] {1, 0, 1, 6}), Map.entry("stage", new int[] {-9, 25, -9, 9}),
        Map.entry("weather", new int[] {1, 0, 0, 3}), Map.entry("bank", new int[] {1, 0, 0, 1, 0, 5}),
        Map.entry("barge", new int[] {0, 2, 1, 0, 0, 1}), Map.entry("divert", new int[] {0, 11}),
        Map.entry("contract", new int[] {0, 2, 1, 0, 1, 0, 1, 60, 0, 200, 0, 300}),
        Map.entry("load", new int[] {0, 20, 0, 11, 1, 6}), Map.entry("boat", new int[] {1, 9, 1, 4}),
        Map.entry("fuel", new int[] {0, 5, 1, 400}), Map.entry("wide", new int[] {0, 5, 1, 4}),
        Map.entry("drop", new int[] {1, 0, 1, 0, 0, 1}), Map.entry("radio", new int[] {0, 5, 0, 5}),
        Map.entry("go", new int[] {0, 5}), Map.entry("pass", new int[] {1, 2}));

    private static final Map<String, Method> OF_TOWMASTER = methods(Towmaster.class);
    private static final Map<String, Method> OF_PLAIN = methods(Plain.class);

    // How often each call was answered or threw what, and how often each cause barred a boat.
    private static final Map<String, Integer> SEEN = new TreeMap<>();

    private static long seed;
    private static Towmaster real;
    private static Plain plain;
    private static String where;

    public static void main(String[] args) throws IllegalAccessException {
        for (int run = 0; run < RUNS; run++) {
            seed = run * 104729L + 5;
            int kind = run % KINDS.length;
            int points = 2 + below(4);
            real = new Towmaster();
            plain = new Plain();
            where = "run " + run + ", set up: ";
            setUp(kind, points);
            for (int k = 0; k < CALLS; k++) {
                where = "run " + run + ", call " + k + ": ";
                String name = KINDS[kind][below(KINDS[kind].length)];
                if (name.equals("ship")) {
                    ship();
                    continue;
                }
                both(name, arguments(name, kind, points));
                if (name.equals("pass") || k % 10 == 0) {
                    compareAll();
                }
            }
        }
        reachesFar();
        Check.end("PlainTest");
    }

    /** Runs in which little is answered would compare little. */
    private static void reachesFar() {
        for (String name : OF_TOWMASTER.keySet()) {
            Check.due("often enough answered: " + name, SEEN.getOrDefault(name + " answered", 0) >= 50, true);
        }
        for (int cause = 0; cause < Towmaster.AGROUND; cause++) {
            Check.due("often enough barred by " + cause, SEEN.getOrDefault("bars of " + cause, 0) >= 50, true);
        }
    }

    private static Map<String, Method> methods(Class<?> of) {
        Map<String, Method> found = new HashMap<>();
        for (Method method : of.getDeclaredMethods()) {
            if (!Modifier.isPrivate(method.getModifiers())) {
                found.put(method.getName(), method);
            }
        }
        return found;
    }

    private static int below(int bound) {
        seed = seed * 6364136223846793005L + 1442695040888963407L;
        return (int) ((seed >>> 33) % bound);
    }

    private static void setUp(int kind, int points) throws IllegalAccessException {
        for (int section = 0; section < points - 1; section++) {
            if (kind == 1) {
                both("reach", section, 1, 60, 4, false);
            } else if (below(2) == 0) {
                both("lock", section, 1 + below(2), 1 + below(3), below(2) == 0);
            } else {
                both("reach", section, 1 + below(3), 15 + below(30), 1 + below(4), below(4) == 0);
            }
        }
        for (int k = 0; k < (kind == 0 ? 6 : 3); k++) {
            both("boat", kind == 1 ? 9 : 1 + below(9), kind == 1 ? 4 : 1 + below(4), below(points));
            both("fuel", k, 999);
            both("wide", k, 1 + below(4));
        }
        for (int k = 0; k < 16; k++) {
            both("barge", below(3), below(points), below(2));
        }
        for (int k = 0; k < 9; k++) {
            int from = below(points);
            both("contract", below(3), from, (from + 1) % points, 10 + below(60), below(300), below(301));
        }
    }

    /** Arguments in their ranges for the most part, and such as the state lets: else little would ever be answered. */
    private static Object[] arguments(String name, int kind, int points) {
        Class<?>[] types = OF_TOWMASTER.get(name).getParameterTypes();
        Object[] arguments = new Object[types.length];
        boolean isWild = kind == 2 && below(3) == 0;
        for (int k = 0; k < types.length; k++) {
            if (types[k] == boolean.class) {
                arguments[k] = below(name.equals("weather") || name.equals("fog") ? 8 : 3) == 0;
            } else {
                arguments[k] = isWild && below(3) == 0 ? wild() : below(points);
            }
        }
        if (!isWild) {
            inRange(name, arguments);
            asStateLets(name, arguments);
        }
        return arguments;
    }

    /** Brings a laden barge to where its contract goes, if there is such a one and a boat for it, and unloads it. */
    private static void ship() throws IllegalAccessException {
        for (int tries = 0; tries < 60; tries++) {
            int barge = below(Check.count(real, 'g'));
            int boat = below(Check.count(real, 'b'));
            int contract = real.ofBarge(barge, 2);
            int place = real.ofBarge(barge, 0);
            if (contract == Towmaster.NONE || place % 10 != real.ofBoat(boat, 0)) {
                continue;
            }
            both("couple", boat, barge);
            both("fuel", boat, 100);
            both("go", boat, real.ofContract(contract, 4));
            for (int k = 0; k < 12 && real.ofBoat(boat, 0) != real.ofContract(contract, 4); k++) {
                both("pass", 1);
            }
            both("drop", boat, barge, below(2));
            both("unload", barge);
            both(below(2) == 0 ? "clean" : "unload", barge);
            return;
        }
    }

    private static void inRange(String name, Object[] arguments) {
        int[] bounds = RANGES.getOrDefault(name, new int[0]);
        for (int k = 0; k + 1 < bounds.length; k += 2) {
            if (bounds[k] <= bounds[k + 1]) {
                arguments[k / 2] = bounds[k] + below(bounds[k + 1] - bounds[k] + 1);
            }
        }
    }

    private static void asStateLets(String name, Object[] arguments) {
        int barge = below(Math.max(1, Check.count(real, 'g')));
        int boat = below(Math.max(1, Check.count(real, 'b')));
        if (List.of("load", "unload", "clean").contains(name)) {
            for (int k = 0; k < 30 && !isReady(name, barge, arguments); k++) {
                barge = below(Check.count(real, 'g'));
                boat = below(9);
            }
            arguments[0] = barge;
            return;
        }
        if (name.equals("couple") || name.equals("drop")) {
            int due = name.equals("drop") ? 10 : 0;
            for (int k = 0; k < 60 && real.ofBarge(barge, 0) != due + real.ofBoat(boat, 0); k++) {
                barge = below(Check.count(real, 'g'));
                boat = below(Check.count(real, 'b'));
            }
            arguments[0] = boat;
            arguments[1] = barge;
        } else if (name.equals("go") && boat < Check.count(real, 'b')) {
            arguments[0] = boat;
            for (int k = 0; k < Check.count(real, 'g'); k++) {
                int contract = real.ofBarge(k, 2);
                if (real.ofBarge(k, 0) == 10 + real.ofBoat(boat, 0) && contract != Towmaster.NONE) {
                    arguments[1] = real.ofContract(contract, 4);
                }
            }
        } else if (name.startsWith("shifts")) {
            arguments[1] = 0;
            for (int k = 0; k < Check.count(real, 'g'); k++) {
                boolean isTiedThere = real.ofBarge(k, 0) == (int) arguments[0];
                arguments[1] = (int) arguments[1] | (isTiedThere && below(3) > 0 ? 1 << k : 0);
            }
        }
    }

    private static boolean isReady(String name, int barge, Object[] arguments) {
        int contract = real.ofBarge(barge, 2);
        if (name.equals("unload")) {
            return contract != Towmaster.NONE && real.ofContract(contract, 4) == real.ofBarge(barge, 0);
        }
        if (name.equals("clean")) {
            return contract == Towmaster.NONE && real.ofBarge(barge, 3) != Towmaster.NONE;
        }
        boolean isTied = real.ofBarge(barge, 0) < 10;
        if (contract != Towmaster.NONE) {
            arguments[1] = contract;
        }
        return isTied && real.ofBarge(barge, 6) == 0;
    }

    private static Object wild() {
        int[] all = {-1, 7, 8, 24, 12, 6, Integer.MIN_VALUE, Integer.MAX_VALUE};
        return all[below(all.length)];
    }

    private static void both(String name, Object... arguments) throws IllegalAccessException {
        String got = answer(OF_TOWMASTER.get(name), real, arguments);
        String due = answer(OF_PLAIN.get(name), plain, arguments);
        Check.due(where + name + Arrays.toString(arguments), got, due);
        seen(name, got);
    }

    private static void seen(String name, String got) {
        String kind = got.startsWith("throws") ? got.substring("throws java.lang.".length()) : "answered";
        SEEN.merge(name + " " + kind, 1, Integer::sum);
        if (name.equals("bars") && kind.equals("answered")) {
            SEEN.merge("bars of " + got, 1, Integer::sum);
        }
    }

    private static String answer(Method method, Object of, Object[] arguments) throws IllegalAccessException {
        try {
            return String.valueOf(method.invoke(of, arguments));
        } catch (InvocationTargetException e) {
            return "throws " + e.getCause().getClass().getName();
        }
    }

    private static void compareAll() throws IllegalAccessException {
        int boats = Check.count(real, 'b');
        int barges = Check.count(real, 'g');
        int contracts = Check.count(real, 'c');
        table("all", 1, 7, false);
        table("ofBoat", boats + 1, 11, true);
        table("waited", boats, 11, true);
        table("hours", boats, 8, true);
        table("ofBarge", barges + 1, 7, true);
        table("ofContract", contracts, 6, true);
        table("water", 7, 4, true);
        table("bars", 1, boats, false);
        table("placeAnew", 1, barges, false);
        for (int boat = 0; boat < boats; boat++) {
            both("most", boat, true);
            both("most", boat, false);
        }
    }

    private static void table(String name, int rows, int columns, boolean isOfTwo) throws IllegalAccessException {
        for (int row = 0; row < rows; row++) {
            for (int column = 0; column < columns; column++) {
                if (isOfTwo) {
                    both(name, row, column);
                } else {
                    both(name, column);
                }
            }
        }
    }
}
