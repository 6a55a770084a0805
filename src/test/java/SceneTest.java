import java.util.function.Consumer;

/** Whatever is told of a scene shows in Scene.all(): else a refused call could change it unseen. */
public final class SceneTest {
    private static final String AS_BUILT = Scene.all(Scene.full());

    public static void main(String[] args) {
        Check.due("built the same each time", Scene.all(Scene.full()).equals(AS_BUILT), true);
        river();
        cargo();
        boats();
        Check.end("SceneTest");
    }

    private static void shows(String what, Consumer<Towmaster> told) {
        Towmaster t = Scene.full();
        told.accept(t);
        Check.due(what + " shows", Scene.all(t).equals(AS_BUILT), false);
    }

    private static void river() {
        shows("a reach's hours", t -> t.reach(1, 4, 40, 2, true));
        shows("its depth", t -> t.reach(1, 3, 41, 2, true));
        shows("whether it is a bend", t -> t.reach(1, 3, 40, 2, false));
        shows("that none went into a lock", t -> t.lock(3, 2, 2, true));
        shows("a lock's depth", t -> t.dredge(3, 1));
        shows("the stage", t -> t.stage(13, 2));
        shows("its fall", t -> t.stage(12, 1));
        shows("ice", t -> t.weather(6, 1, false));
        shows("what is shut", t -> t.weather(2, 1, false));
        shows("fog", t -> t.fog(false));
    }

    private static void cargo() {
        shows("a tier's room", t -> t.bank(5, 1, 3));
        shows("a contract's point", t -> t.divert(0, 2));
        shows("cargo", t -> t.load(0, 0, 1));
        shows("what was loaded in this hour, with the rest as it was", t -> t.load(9, 3, 1));
        shows("a barge in a tow", t -> t.couple(0, 0));
        shows("one that was dropped", t -> t.drop(4, 6, 1));
    }

    private static void boats() {
        shows("fuel", t -> t.fuel(0, 1));
        shows("places of a row", t -> t.wide(0, 3));
        shows("a radio", t -> t.radio(0, 4, false));
        shows("a radio of others", t -> t.radio(0, 1, true));
        shows("a goal", t -> t.go(0, 2));
        shows("an hour", t -> t.pass(1));
    }
}
