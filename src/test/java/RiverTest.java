/** Promises 1 to 7 and 23: a new object, reaches, locks, depth, stage, ice, fog, water. */
public final class RiverTest {
    public static void main(String[] args) {
        promise1NewObject();
        promise2Reach();
        promise2KeepsIceAndShut();
        promise2FromLock();
        promise3Lock();
        promise3KeepsDepthIceAndShut();
        promise3NoneWentYet();
        promise4Dredge();
        promise5Stage();
        promise5StageFallsByTheDay();
        promise6Weather();
        promise7Fog();
        promise23Water();
        Check.end("RiverTest");
    }

    private static void promise1NewObject() {
        Towmaster t = new Towmaster();
        for (int what = 0; what <= 6; what++) {
            Check.due("new all " + what, t.all(what), 0);
        }
        for (int section = 0; section < 7; section++) {
            Check.due("new water " + section, t.water(section, 30), 30);
            Check.due("new ice " + section, t.weather(section, 0, false), 0);
        }
        for (int point = 0; point < 8; point++) {
            Check.due("new room", t.bank(point, 0, 3), 3);
            Check.due("new room", t.bank(point, 1, 3), 3);
        }
        Check.due("new fog", t.fog(false), false);
        t.boat(1, 1, 0);
        Check.due("all reaches of 2 hours, up", t.hours(0, 7), 28);
        t.boat(1, 1, 7);
        Check.due("all reaches of 2 hours, down", t.hours(1, 0), 14);
        Check.due("rows of 2 places at first", t.wide(0, 2), 2);
        t.boat(9, 4, 4);
        t.wide(2, 4);
        t.bank(4, 0, 4);
        for (int barge = 0; barge < 4; barge++) {
            t.barge(Towmaster.OPEN, 4, 0);
        }
        for (int barge = 3; barge > 0; barge--) {
            t.couple(2, barge);
        }
        Check.due("a width of 3 at first", t.hours(2, 5), 4);
        t.couple(2, 0);
        Check.due("no greater one", t.hours(2, 5), Towmaster.NONE);
    }

    private static void promise2Reach() {
        Towmaster t = new Towmaster();
        t.boat(9, 4, 3);
        t.reach(3, 9, 99, 4, true);
        Check.due("hours up", t.hours(0, 4), 18);
        Check.due("depth", t.water(3, 0), 99);
        t.reach(3, 1, 10, 1, false);
        Check.due("least depth", t.water(3, 0), 10);
        Check.due("10 is too shallow for 10 and 2", t.hours(0, 4), Towmaster.NONE);
        t.reach(3, 1, 12, 1, false);
        Check.due("12 is enough", t.hours(0, 4), 2);
        Check.noSuch(t, "reach -1", () -> t.reach(-1, 0, 0, 0, false));
        Check.noSuch(t, "reach 7", () -> t.reach(7, 1, 30, 1, false));
        Check.notAllowed(t, "0 hours", () -> t.reach(3, 0, 30, 1, false));
        Check.notAllowed(t, "10 hours", () -> t.reach(3, 10, 30, 1, false));
        Check.notAllowed(t, "depth 9", () -> t.reach(3, 1, 9, 1, false));
        Check.notAllowed(t, "depth 100", () -> t.reach(3, 1, 100, 1, false));
        Check.notAllowed(t, "width 0", () -> t.reach(3, 1, 30, 0, false));
        Check.notAllowed(t, "width 5", () -> t.reach(3, 1, 30, 5, false));
        t.fuel(0, 999);
        t.go(0, 4);
        t.pass(1);
        Check.notNow(t, "a boat goes in it", () -> t.reach(3, 1, 30, 1, false));
        Check.notAllowed(t, "the range comes first", () -> t.reach(3, 1, 30, 5, false));
        t.reach(2, 3, 30, 1, false);
        t.pass(2);
        t.reach(3, 3, 30, 1, false);
        Check.due("once it is empty", t.hours(0, 3), 3);
    }

    private static void promise2KeepsIceAndShut() {
        Towmaster t = new Towmaster();
        t.boat(9, 1, 0);
        t.fuel(0, 999);
        t.go(0, 1);
        t.weather(0, 2, true);
        t.reach(0, 4, 40, 2, true);
        Check.due("shut still", t.bars(0), Towmaster.SHUT);
        Check.due("ice still", t.weather(0, 2, false), 2);
        Check.due("ice lengthens it", t.hours(0, 1), 10);
    }

    private static void promise2FromLock() {
        Towmaster t = new Towmaster();
        t.lock(4, 1, 1, false);
        t.boat(9, 4, 4);
        Check.due("a lock", t.hours(0, 5), 1);
        t.reach(4, 3, 30, 3, false);
        Check.due("a reach again", t.hours(0, 5), 6);
    }

    private static void promise3Lock() {
        Towmaster t = new Towmaster();
        t.boat(9, 4, 0);
        t.lock(0, 1, 1, false);
        Check.due("one hour without barges", t.hours(0, 1), 1);
        Check.noSuch(t, "lock -1", () -> t.lock(-1, 0, 0, false));
        Check.noSuch(t, "lock 7", () -> t.lock(7, 1, 1, false));
        Check.notAllowed(t, "chamber 0", () -> t.lock(0, 0, 1, true));
        Check.notAllowed(t, "chamber 10", () -> t.lock(0, 10, 1, true));
        Check.notAllowed(t, "turns 0", () -> t.lock(0, 1, 0, true));
        Check.notAllowed(t, "turns 4", () -> t.lock(0, 1, 4, true));
        for (int k = 0; k < 3; k++) {
            t.barge(Towmaster.OPEN, 0, 0);
        }
        t.couple(0, 2);
        Check.due("as many as the chamber", t.hours(0, 1), 1);
        t.couple(0, 1);
        Check.due("more than the chamber", t.hours(0, 1), 3);
        t.lock(0, 1, 1, true);
        Check.due("more than the chamber, with a helper", t.hours(0, 1), 2);
        t.couple(0, 0);
        Check.due("more than twice the chamber", t.hours(0, 1), Towmaster.NONE);
        t.lock(0, 9, 3, true);
        Check.due("a great chamber", t.hours(0, 1), 1);
        t.weather(0, 2, false);
        t.fuel(0, 999);
        t.go(0, 1);
        t.pass(2);
        Check.due("ice lengthens it", t.ofBoat(0, 9), 3);
        Check.notNow(t, "a boat goes in it", () -> t.lock(0, 9, 3, true));
        Check.notAllowed(t, "the range comes first", () -> t.lock(0, 9, 4, true));
        Check.notNow(t, "nor can it be a reach now", () -> t.reach(0, 1, 30, 1, false));
    }

    private static void promise3KeepsDepthIceAndShut() {
        Towmaster t = new Towmaster();
        t.boat(9, 1, 1);
        t.fuel(0, 999);
        t.go(0, 0);
        t.reach(0, 4, 41, 2, true);
        t.weather(0, 3, true);
        t.lock(0, 1, 1, false);
        Check.due("depth stays", t.water(0, 0), 41);
        Check.due("shut stays", t.bars(0), Towmaster.SHUT);
        Check.due("ice stays", t.weather(0, 3, false), 3);
        t.fog(true);
        Check.due("a lock is no bend", t.bars(0), 0);
    }

    private static void promise3NoneWentYet() {
        Towmaster t = new Towmaster();
        t.lock(0, 1, 1, false);
        t.boat(1, 1, 0);
        t.boat(1, 1, 1);
        t.boat(1, 1, 1);
        for (int boat = 0; boat < 3; boat++) {
            t.fuel(boat, 99);
        }
        t.go(1, 0);
        t.pass(2);
        t.go(0, 1);
        t.go(2, 0);
        Check.due("one went down, which was its turn", t.bars(0), 0);
        Check.due("so the next one down waits", t.bars(2), Towmaster.LOCK);
        t.lock(0, 1, 1, false);
        Check.due("made anew, it is as at first", t.bars(0), Towmaster.LOCK);
        Check.due("and down goes ahead", t.bars(2), 0);
        t.pass(4);
        Check.due("down, then up", t.ofBoat(0, 0), 1);
        t.lock(0, 1, 3, false);
        t.go(0, 0);
        t.go(1, 1);
        Check.due("whatever went before, down goes ahead", t.bars(0), 0);
        Check.due("of up", t.bars(1), Towmaster.LOCK);
    }

    private static void promise4Dredge() {
        Towmaster t = new Towmaster();
        Check.due("dredge", t.dredge(6, 20), 50);
        Check.due("dredge", t.dredge(6, 1), 51);
        t.lock(6, 1, 1, false);
        Check.due("a lock too", t.dredge(6, 9), 60);
        t.reach(0, 1, 79, 1, false);
        Check.due("to 99", t.dredge(0, 20), 99);
        Check.notNow(t, "to 100", () -> t.dredge(0, 1));
        Check.notAllowed(t, "the range comes first", () -> t.dredge(0, 21));
        Check.notAllowed(t, "by 0", () -> t.dredge(1, 0));
        Check.noSuch(t, "section 7", () -> t.dredge(7, 0));
        Check.noSuch(t, "section -1", () -> t.dredge(-1, 1));
        Check.due("as deep as before", t.water(0, 0), 99);
    }

    private static void promise5Stage() {
        Towmaster t = new Towmaster();
        Check.due("stage", t.stage(60, 9), 0);
        Check.due("stage", t.stage(-30, -9), 60);
        Check.due("stage now", t.all(1), -30);
        Check.due("water", t.water(0, 0), 0);
        Check.notAllowed(t, "stage -31", () -> t.stage(-31, 0));
        Check.notAllowed(t, "stage 61", () -> t.stage(61, 0));
        Check.notAllowed(t, "fall -10", () -> t.stage(0, -10));
        Check.notAllowed(t, "fall 10", () -> t.stage(0, 10));
        Check.due("stage as before", t.stage(0, 0), -30);
    }

    private static void promise5StageFallsByTheDay() {
        Towmaster t = new Towmaster();
        t.stage(10, 9);
        t.pass(23);
        Check.due("not yet", t.all(1), 10);
        t.pass(1);
        Check.due("as the hour 24 begins", t.all(1), 1);
        t.pass(24);
        Check.due("below 0", t.all(1), -8);
        t.pass(48);
        t.pass(24);
        Check.due("never below -30", t.all(1), -30);
        t.stage(55, -9);
        t.pass(24);
        Check.due("never above 60", t.all(1), 60);
        t.stage(7, 0);
        t.pass(48);
        Check.due("without a fall it stays", t.all(1), 7);
    }

    private static void promise6Weather() {
        Towmaster t = new Towmaster();
        Check.due("weather", t.weather(6, 3, false), 0);
        Check.due("weather", t.weather(6, 1, true), 3);
        Check.due("another section", t.weather(5, 0, false), 0);
        Check.noSuch(t, "section 7", () -> t.weather(7, 9, false));
        Check.noSuch(t, "section -1", () -> t.weather(-1, 0, false));
        t.boat(9, 1, 6);
        t.fuel(0, 99);
        t.go(0, 7);
        Check.due("shut", t.bars(0), Towmaster.SHUT);
        Check.notAllowed(t, "ice 4", () -> t.weather(6, 4, false));
        Check.notAllowed(t, "ice -1", () -> t.weather(6, -1, false));
        Check.due("ice as before", t.weather(6, 0, false), 1);
        Check.due("open again", t.bars(0), 0);
    }

    private static void promise7Fog() {
        Towmaster t = new Towmaster();
        Check.due("fog", t.fog(true), false);
        Check.due("fog", t.fog(true), true);
        t.reach(0, 1, 30, 1, true);
        t.boat(1, 1, 1);
        t.boat(1, 1, 0);
        t.boat(1, 1, 2);
        for (int boat = 0; boat < 3; boat++) {
            t.fuel(boat, 99);
        }
        t.go(0, 0);
        t.go(1, 1);
        t.go(2, 1);
        Check.due("a bend, down", t.bars(0), Towmaster.SHUT);
        Check.due("a bend, up", t.bars(1), 0);
        Check.due("no bend, down", t.bars(2), 0);
        Check.due("fog", t.fog(false), true);
        Check.due("without fog", t.bars(0), 0);
    }

    private static void promise23Water() {
        Towmaster t = new Towmaster();
        t.stage(60, 9);
        t.reach(2, 1, 40, 1, false);
        Check.due("now", t.water(2, 0), 100);
        Check.due("in a day", t.water(2, 1), 91);
        Check.due("in ten days", t.water(2, 10), 10);
        Check.due("the stage is never below -30", t.water(2, 11), 10);
        Check.due("in 30 days", t.water(2, 30), 10);
        t.stage(50, -9);
        Check.due("it rises", t.water(2, 1), 99);
        Check.due("the stage is never above 60", t.water(2, 2), 100);
        t.pass(10);
        Check.due("a day is from day to day", t.water(2, 0), 90);
        t.pass(24);
        Check.due("as it was told", t.water(2, 0), 99);
        Check.noSuch(t, "section 7", () -> t.water(7, 31));
        Check.noSuch(t, "section -1", () -> t.water(-1, 0));
        Check.notAllowed(t, "-1 days", () -> t.water(0, -1));
        Check.notAllowed(t, "31 days", () -> t.water(0, 31));
    }
}
