import java.lang.reflect.InvocationTargetException;
import java.lang.reflect.Method;
import java.util.ArrayList;
import java.util.Arrays;
import java.util.List;
import java.util.function.Supplier;

/**
 * Each argument of each call: the last value that is allowed and the first that is not, on both sides of its range;
 * which exception is thrown if several apply; and that a call which was refused, or merely asks, changes nothing.
 */
public final class RangeTest {
    private static final Class<?> NO_SUCH = IndexOutOfBoundsException.class;
    private static final Class<?> NOT_ALLOWED = IllegalArgumentException.class;
    private static final Class<?> NOT_NOW = IllegalStateException.class;

    /** From what to what an argument goes, and what is thrown outside of it. A boolean is 0 or 1. */
    private static final class Range {
        final int least;
        final int most;
        final Class<?> thrown;

        Range(int least, int most, Class<?> thrown) {
            this.least = least;
            this.most = most;
            this.thrown = thrown;
        }

        int[] wrong() {
            boolean isBoolean = thrown == null;
            return isBoolean ? new int[0] : new int[] {least - 1, most + 1, Integer.MIN_VALUE, Integer.MAX_VALUE};
        }
    }

    private final String name;
    private final Method method;
    private final Supplier<Towmaster> scene;
    private final Range[] ranges;
    private final List<int[]> good = new ArrayList<>();

    private RangeTest(String name, Supplier<Towmaster> scene, Range[] ranges) {
        this.name = name;
        this.method = methodOf(name);
        this.scene = scene;
        this.ranges = ranges;
    }

    public static void main(String[] args) {
        river();
        cargo();
        boats();
        asked();
        sets();
        Check.end("RangeTest");
    }

    private static void river() {
        call("reach", Scene::full, index(0, 6), range(1, 9), range(10, 99), range(1, 4), yesOrNo())
                .answers(0, 1, 10, 1, 0).answers(6, 9, 99, 4, 1).check().notNow(Scene::full, 5, 1, 10, 1, 0);
        call("lock", Scene::full, index(0, 6), range(1, 9), range(1, 3), yesOrNo())
                .answers(0, 1, 1, 0).answers(6, 9, 3, 1).check().notNow(Scene::full, 5, 9, 3, 1);
        call("dredge", Scene::full, index(0, 6), range(1, 20))
                .answers(0, 1).answers(6, 20).check().notNow(RangeTest::deep, 0, 1);
        call("stage", Scene::full, range(-30, 60), range(-9, 9)).answers(-30, 9).answers(60, -9).check();
        call("weather", Scene::full, index(0, 6), range(0, 3), yesOrNo()).answers(0, 3, 1).answers(6, 0, 0).check();
        call("fog", Scene::full, yesOrNo()).answers(0).answers(1).check();
    }

    private static void cargo() {
        call("bank", Scene::coupled, index(0, 7), index(0, 1), range(0, 5))
                .answers(0, 1, 0).answers(7, 0, 5).check().notNow(Scene::full, 1, 0, 1);
        call("barge", Scene::young, range(0, 2), index(0, 7), index(0, 1))
                .answers(0, 7, 1).answers(2, 0, 0).check().notNow(Scene::full, 0, 7, 1);
        call("contract", Scene::young, range(0, 2), index(0, 7), index(0, 7), range(1, 99), range(0, 5000),
                range(0, 300)).answers(0, 0, 7, 1, 5000, 0).answers(2, 7, 0, 99, 0, 300).check()
                .notNow(Scene::full, 0, 0, 7, 1, 0, 0).refuses(NOT_ALLOWED, 0, 3, 3, 1, 0, 0)
                .refuses(NO_SUCH, 0, 8, 8, 1, 0, 0).refuses(NO_SUCH, 0, -1, -1, 1, 0, 0);
        call("divert", Scene::full, index(0, 11), index(0, 7)).answers(0, 7).answers(11, 0).check()
                .refuses(NOT_ALLOWED, 0, 0).refuses(NOT_ALLOWED, 0, 1).refuses(NOT_ALLOWED, 11, 7)
                .refuses(NOT_ALLOWED, 11, 6);
        call("load", Scene::full, index(0, 23), index(0, 11), range(1, 12))
                .answers(0, 0, 12).answers(23, 11, 1).check().notNow(Scene::full, 1, 0, 1);
        call("unload", Scene::dropped, index(0, 23)).answers(0).answers(23).check().notNow(Scene::full, 1);
        call("clean", Scene::unloaded, index(0, 23)).answers(0).answers(23).check().notNow(Scene::full, 1);
    }

    private static void boats() {
        call("boat", Scene::young, range(1, 9), range(1, 4), index(0, 7))
                .answers(1, 4, 7).answers(9, 1, 0).check().notNow(Scene::full, 1, 4, 7);
        call("fuel", Scene::full, index(0, 5), range(1, 999))
                .answers(0, 1).answers(5, 999).check().notNow(Scene::full, 3, 1);
        call("wide", Scene::full, index(0, 5), range(1, 4)).answers(0, 4).answers(5, 1).check().notNow(Scene::full, 4, 3);
        call("couple", Scene::full, index(0, 5), index(0, 23))
                .answers(0, 0).answers(5, 23).check().notNow(Scene::full, 3, 15);
        call("drop", Scene::coupled, index(0, 5), index(0, 23), index(0, 1))
                .answers(0, 0, 1).answers(5, 23, 0).check().notNow(Scene::full, 0, 0, 0);
        call("radio", Scene::full, index(0, 5), index(0, 5), yesOrNo()).answers(0, 5, 1).answers(5, 0, 0).check()
                .refuses(NOT_ALLOWED, 0, 0, 1).refuses(NOT_ALLOWED, 5, 5, 0).refuses(NO_SUCH, 6, 6, 1);
        call("go", Scene::full, index(0, 5), index(0, 7)).answers(0, 7).answers(5, 0).check();
        call("pass", Scene::full, range(1, 48)).answers(1).answers(48).check().notNow(RangeTest::over, 1);
    }

    private static void asked() {
        call("water", Scene::full, index(0, 6), range(0, 30)).asks();
        call("most", Scene::full, index(0, 5), yesOrNo()).asks();
        call("hours", Scene::full, index(0, 5), index(0, 7)).asks();
        call("bars", Scene::full, index(0, 5)).asks();
        call("ofBoat", Scene::full, index(0, 5), index(0, 10)).asks();
        call("waited", Scene::full, index(0, 5), index(Towmaster.WORK, Towmaster.AGROUND)).asks();
        call("ofBarge", Scene::full, index(0, 23), index(0, 6)).asks();
        call("placeAnew", Scene::full, index(0, 23)).asks();
        call("ofContract", Scene::full, index(0, 11), index(0, 5)).asks();
        call("all", Scene::full, index(0, 6)).asks();
        // Of a new object there is no boat, barge or contract to ask for.
        for (String name : List.of("bars", "placeAnew")) {
            call(name, Towmaster::new, index(0, -1)).refuses(NO_SUCH, 0);
        }
        for (String name : List.of("hours", "ofBoat", "ofBarge", "ofContract", "waited")) {
            call(name, Towmaster::new, index(0, -1), index(0, 1)).refuses(NO_SUCH, 0, 1);
        }
        call("most", Towmaster::new, index(0, -1), yesOrNo()).refuses(NO_SUCH, 0, 1);
    }

    /** A set is no range of numbers: which of its bits may be set depends on where the barges are. */
    private static void sets() {
        for (String name : List.of("shifts", "shiftsAnew")) {
            RangeTest call = call(name, Scene::full, index(0, 7), yesOrNo());
            call.answers(0, 0).answers(7, 1 << 21 | 1 << 22 | 1 << 23).answers(0, 1).mayBeAnswered();
            for (int wrong : new int[] {-1, Integer.MIN_VALUE, 1 << 23, 1 << 24, 1 << 30, Integer.MAX_VALUE, 1 << 3 | 1}) {
                call.refuses(NOT_ALLOWED, 0, wrong).refuses(NO_SUCH, -1, wrong).refuses(NO_SUCH, 8, wrong);
            }
            call.refuses(NO_SUCH, 8, 0).refuses(NO_SUCH, -1, 0);
        }
    }

    private static Towmaster deep() {
        Towmaster t = Scene.full();
        t.reach(0, 1, 99, 1, false);
        return t;
    }

    private static Towmaster over() {
        Towmaster t = Scene.full();
        while (t.all(0) < 5000) {
            t.pass(Math.min(48, 5000 - t.all(0)));
        }
        return t;
    }

    private static Range index(int least, int most) {
        return new Range(least, most, NO_SUCH);
    }

    private static Range range(int least, int most) {
        return new Range(least, most, NOT_ALLOWED);
    }

    private static Range yesOrNo() {
        return new Range(0, 1, null);
    }

    private static RangeTest call(String name, Supplier<Towmaster> scene, Range... ranges) {
        return new RangeTest(name, scene, ranges);
    }

    private static Method methodOf(String name) {
        for (Method method : Towmaster.class.getDeclaredMethods()) {
            if (method.getName().equals(name)) {
                return method;
            }
        }
        throw new IllegalStateException(name);
    }

    private RangeTest answers(int... arguments) {
        good.add(arguments);
        return this;
    }

    /** With the least and the most of each range it is answered, and outside of each refused, changing nothing. */
    private RangeTest check() {
        for (int k = 0; k < ranges.length; k++) {
            int place = k;
            Check.due(name + " tries the least", good.stream().anyMatch(a -> a[place] == ranges[place].least), true);
            Check.due(name + " tries the most", good.stream().anyMatch(a -> a[place] == ranges[place].most), true);
        }
        mayBeAnswered();
        Towmaster t = scene.get();
        for (int[] arguments : good) {
            outOfRange(t, arguments);
        }
        isAsAtFirst(t, scene);
        return this;
    }

    private void mayBeAnswered() {
        for (int[] arguments : good) {
            Check.due(written(arguments), outcome(scene.get(), arguments), "answered");
        }
    }

    /** Each argument wrong on its own, then each two of them at once. */
    private void outOfRange(Towmaster t, int[] arguments) {
        for (int i = 0; i < ranges.length; i++) {
            for (int one : ranges[i].wrong()) {
                int[] wrong = arguments.clone();
                wrong[i] = one;
                refused(t, ranges[i].thrown, wrong);
                for (int j = i + 1; j < ranges.length; j++) {
                    for (int two : ranges[j].wrong()) {
                        int[] wrongTwice = wrong.clone();
                        wrongTwice[j] = two;
                        boolean isOfIndex = ranges[i].thrown == NO_SUCH || ranges[j].thrown == NO_SUCH;
                        refused(t, isOfIndex ? NO_SUCH : NOT_ALLOWED, wrongTwice);
                    }
                }
            }
        }
    }

    /** The state refuses these arguments, but what is out of range is told ahead of it. */
    private RangeTest notNow(Supplier<Towmaster> other, int... arguments) {
        Towmaster t = other.get();
        refused(t, NOT_NOW, arguments);
        outOfRange(t, arguments);
        isAsAtFirst(t, other);
        return this;
    }

    private RangeTest refuses(Class<?> due, int... arguments) {
        Towmaster t = scene.get();
        refused(t, due, arguments);
        isAsAtFirst(t, scene);
        return this;
    }

    /** All that is in range is answered, all else is refused, and neither changes anything. */
    private void asks() {
        Towmaster t = scene.get();
        int[] arguments = new int[ranges.length];
        for (int one = ranges[0].least; one <= ranges[0].most; one++) {
            arguments[0] = one;
            int most = ranges.length > 1 ? ranges[1].most : 0;
            for (int two = ranges.length > 1 ? ranges[1].least : 0; two <= most; two++) {
                arguments[ranges.length - 1] = ranges.length > 1 ? two : one;
                Check.due(written(arguments), outcome(t, arguments), "answered");
            }
        }
        outOfRange(t, arguments);
        isAsAtFirst(t, scene);
    }

    private void refused(Towmaster t, Class<?> due, int[] arguments) {
        Check.due(written(arguments), outcome(t, arguments), due.getName());
    }

    private void isAsAtFirst(Towmaster t, Supplier<Towmaster> from) {
        Check.due(name + " changed nothing", Scene.all(t).equals(Scene.all(from.get())), true);
    }

    private String written(int[] arguments) {
        return name + Arrays.toString(arguments);
    }

    /** answered, or the name of the exception that was thrown. */
    private String outcome(Towmaster t, int[] arguments) {
        Object[] given = new Object[arguments.length];
        for (int k = 0; k < given.length; k++) {
            boolean isBoolean = method.getParameterTypes()[k] == boolean.class;
            given[k] = isBoolean ? (Object) (arguments[k] == 1) : (Object) arguments[k];
        }
        try {
            method.invoke(t, given);
            return "answered";
        } catch (InvocationTargetException e) {
            boolean isDue = Check.isThrownByTowmaster(e.getCause());
            return (isDue ? "" : "machine: ") + e.getCause().getClass().getName();
        } catch (IllegalAccessException e) {
            return "not public";
        }
    }
}
