/** Promises 22, 26, 28 and 34: what an hour does, the causes of waiting, locks, meetings. */
public final class HourTest {
    public static void main(String[] args) {
        promise22Pass();
        promise22LastHour();
        promise22Work();
        promise22Aground();
        promise22FallBeforeAground();
        promise22OnAtOnce();
        promise26Order();
        promise26NoCause();
        promise26Shallow();
        promise26Wide();
        promise26WideInLock();
        promise26Weak();
        promise26Fuel();
        promise26MeetInBend();
        promise26MeetInReach();
        promise26LowerGoalsFirst();
        promise26LockBusy();
        promise26LockOneAtATime();
        promise26LockTurns();
        promise26LockNoneOpposite();
        promise26LockEarlier();
        promise26LockToldLater();
        promise26LockBarredDoNotWait();
        promise28Waited();
        promise34All();
        Check.end("HourTest");
    }

    private static Towmaster withBoats(int power, int... points) {
        Towmaster t = new Towmaster();
        for (int k = 0; k < points.length; k++) {
            t.boat(power, 4, points[k]);
            t.fuel(k, 999);
        }
        return t;
    }

    private static void promise22Pass() {
        Towmaster t = new Towmaster();
        Check.due("pass", t.pass(1), 1);
        Check.due("pass", t.pass(48), 49);
        Check.due("hour", t.all(0), 49);
        Check.notAllowed(t, "0 hours", () -> t.pass(0));
        Check.notAllowed(t, "49 hours", () -> t.pass(49));
        Check.notAllowed(t, "-1 hours", () -> t.pass(-1));
        Check.notAllowed(t, "the lowest", () -> t.pass(Integer.MIN_VALUE));
        Check.notAllowed(t, "the highest", () -> t.pass(Integer.MAX_VALUE));
    }

    private static void promise22LastHour() {
        Towmaster t = new Towmaster();
        for (int k = 0; k < 104; k++) {
            t.pass(48);
        }
        Check.notNow(t, "5001", () -> t.pass(9));
        Check.notAllowed(t, "the range comes first", () -> t.pass(49));
        Check.due("5000", t.pass(8), 5000);
        Check.notNow(t, "after the last hour", () -> t.pass(1));
    }

    private static void promise22Work() {
        Towmaster t = new Towmaster();
        t.boat(1, 3, 0);
        t.barge(Towmaster.OPEN, 0, 0);
        t.barge(Towmaster.OPEN, 0, 0);
        t.couple(0, 0);
        t.couple(0, 1);
        Check.due("work", t.ofBoat(0, 4), 5);
        t.pass(1);
        Check.due("as many as hands", t.ofBoat(0, 4), 2);
        t.pass(1);
        Check.due("or those that are left", t.ofBoat(0, 4), 0);
        t.go(0, 1);
        t.drop(0, 1, 0);
        t.pass(1);
        Check.due("done in this hour, then it waits for fuel", t.ofBoat(0, 10), Towmaster.FUEL);
    }

    private static void promise22Aground() {
        Towmaster t = withBoats(1, 0, 0);
        t.reach(0, 2, 30, 4, false);
        t.lock(1, 1, 1, false);
        t.go(0, 1);
        t.pass(1);
        t.stage(-20, 0);
        t.pass(1);
        Check.due("10 is just enough", t.ofBoat(0, 9), 3);
        t.stage(-21, 0);
        t.pass(2);
        Check.due("aground", t.ofBoat(0, 10), Towmaster.AGROUND);
        Check.due("no hour less is left", t.ofBoat(0, 9), 3);
        Check.due("waited", t.waited(0, Towmaster.AGROUND), 2);
        Check.due("all waited", t.all(6), 2);
        t.stage(0, 0);
        t.pass(3);
        Check.due("afloat again", t.ofBoat(0, 0), 1);
        Check.due("no cause", t.ofBoat(0, 10), 0);
        t.go(0, 2);
        t.pass(1);
        t.stage(-30, 0);
        t.pass(1);
        Check.due("never aground in a lock", t.ofBoat(0, 0), 2);
    }

    private static void promise22FallBeforeAground() {
        Towmaster t = withBoats(1, 0);
        t.pass(22);
        t.stage(-20, 1);
        t.dredge(0, 2);
        t.go(0, 1);
        t.pass(1);
        Check.due("12 is just enough to enter", t.ofBoat(0, 1), 0);
        t.stage(-22, 1);
        t.pass(1);
        Check.due("the stage falls ahead of it", t.ofBoat(0, 10), Towmaster.AGROUND);
    }

    private static void promise22OnAtOnce() {
        Towmaster t = withBoats(2, 2);
        t.reach(1, 1, 30, 1, false);
        t.reach(0, 3, 30, 1, false);
        t.go(0, 0);
        t.pass(1);
        Check.due("it enters in the first hour", t.ofBoat(0, 1), 1);
        Check.due("all its hours are left", t.ofBoat(0, 9), 1);
        Check.due("its fuel", t.ofBoat(0, 3), 997);
        t.pass(1);
        Check.due("it comes to a point and goes on", t.ofBoat(0, 1), 0);
        Check.due("its fuel", t.ofBoat(0, 3), 991);
        t.pass(3);
        Check.due("it is there", t.ofBoat(0, 0), 0);
        Check.due("never waited", t.all(6), 0);
    }

    /** All causes ahead of LOCK at once, each taken away in its turn. */
    private static void promise26Order() {
        Towmaster t = new Towmaster();
        t.boat(1, 4, 1);
        t.boat(9, 4, 0);
        t.fuel(1, 999);
        for (int k = 0; k < 3; k++) {
            t.barge(Towmaster.OPEN, 1, 0);
        }
        t.wide(0, 3);
        for (int k = 2; k >= 0; k--) {
            t.couple(0, k);
        }
        t.reach(0, 9, 30, 2, true);
        t.go(1, 1);
        t.pass(1);
        Check.due("no goal", t.bars(0), Towmaster.NONE);
        t.go(0, 0);
        t.weather(0, 1, true);
        t.stage(-29, 0);
        Check.due("WORK", t.bars(0), Towmaster.WORK);
        t.pass(1);
        Check.due("SHUT", t.bars(0), Towmaster.SHUT);
        t.weather(0, 1, false);
        t.fog(true);
        Check.due("SHUT by fog", t.bars(0), Towmaster.SHUT);
        t.fog(false);
        Check.due("SHALLOW", t.bars(0), Towmaster.SHALLOW);
        t.stage(0, 0);
        Check.due("WIDE", t.bars(0), Towmaster.WIDE);
        t.drop(0, 0, 0);
        t.pass(1);
        Check.due("WEAK", t.bars(0), Towmaster.WEAK);
        t.weather(0, 0, false);
        Check.due("FUEL", t.bars(0), Towmaster.FUEL);
        t.fuel(0, 9);
        Check.due("MEET", t.bars(0), Towmaster.MEET);
        t.pass(16);
        Check.due("the other one was aground for an hour", t.bars(0), Towmaster.MEET);
        t.weather(0, 0, true);
        t.pass(1);
        t.weather(0, 0, false);
        Check.due("none", t.bars(0), 0);
        t.pass(1);
        Check.due("it goes", t.bars(0), Towmaster.NONE);
        Check.noSuch(t, "boat 2", () -> t.bars(2));
        Check.noSuch(t, "boat -1", () -> t.bars(-1));
    }

    private static void promise26NoCause() {
        Towmaster t = withBoats(1, 4);
        Check.due("without a goal", t.bars(0), Towmaster.NONE);
        t.go(0, 5);
        Check.due("it could enter", t.bars(0), 0);
        t.pass(1);
        Check.due("it goes in a section", t.bars(0), Towmaster.NONE);
    }

    private static void promise26Shallow() {
        Towmaster t = withBoats(9, 0);
        t.contract(Towmaster.COAL, 0, 1, 99, 99, 100);
        t.barge(Towmaster.OPEN, 0, 0);
        t.load(0, 0, 5);
        t.couple(0, 0);
        t.pass(1);
        t.go(0, 1);
        t.reach(0, 2, 16, 3, false);
        Check.due("16 for 15 and 2", t.bars(0), Towmaster.SHALLOW);
        t.dredge(0, 1);
        Check.due("17 for 15 and 2", t.bars(0), 0);
        t.lock(0, 1, 1, false);
        t.stage(-1, 0);
        Check.due("a lock may be shallow too", t.bars(0), Towmaster.SHALLOW);
    }

    private static void promise26Wide() {
        Towmaster t = withBoats(9, 0);
        t.wide(0, 4);
        for (int k = 0; k < 3; k++) {
            t.barge(Towmaster.OPEN, 0, 0);
        }
        for (int k = 2; k >= 0; k--) {
            t.couple(0, k);
        }
        t.pass(2);
        t.go(0, 1);
        Check.due("as wide as the reach", t.bars(0), 0);
        t.reach(0, 1, 30, 2, false);
        Check.due("wider than the reach", t.bars(0), Towmaster.WIDE);
    }

    private static void promise26WideInLock() {
        Towmaster t = withBoats(9, 0);
        t.wide(0, 4);
        t.lock(0, 1, 1, false);
        for (int k = 0; k < 3; k++) {
            t.barge(Towmaster.OPEN, 0, 0);
        }
        t.couple(0, 2);
        t.couple(0, 1);
        t.pass(2);
        t.go(0, 1);
        Check.due("twice the chamber", t.bars(0), 0);
        t.couple(0, 0);
        t.pass(1);
        Check.due("more than twice the chamber", t.bars(0), Towmaster.WIDE);
    }

    private static void promise26Weak() {
        Towmaster t = withBoats(1, 1);
        t.contract(Towmaster.COAL, 1, 2, 99, 99, 100);
        t.barge(Towmaster.OPEN, 1, 0);
        t.load(0, 0, 7);
        t.couple(0, 0);
        t.pass(1);
        t.go(0, 2);
        Check.due("8 up", t.bars(0), 0);
        t.stage(10, 0);
        Check.due("8 up, with a high stage", t.bars(0), Towmaster.WEAK);
        t.go(0, 0);
        Check.due("8 down, with a high stage", t.bars(0), 0);
        t.stage(50, 0);
        Check.due("8 down, with a higher stage", t.bars(0), Towmaster.WEAK);

        Towmaster ice = withBoats(4, 0);
        ice.go(0, 1);
        ice.weather(0, 2, false);
        Check.due("twice the ice", ice.bars(0), 0);
        ice.weather(0, 3, false);
        Check.due("less than twice the ice", ice.bars(0), Towmaster.WEAK);
    }

    private static void promise26Fuel() {
        Towmaster t = new Towmaster();
        t.boat(3, 1, 0);
        t.go(0, 1);
        t.fuel(0, 11);
        Check.due("11 for 12", t.bars(0), Towmaster.FUEL);
        t.fuel(0, 1);
        Check.due("12 for 12", t.bars(0), 0);
        t.weather(0, 1, false);
        Check.due("ice takes more", t.bars(0), Towmaster.FUEL);
        t.lock(0, 1, 1, false);
        Check.due("a lock takes less", t.bars(0), 0);
        t.pass(1);
        Check.due("used in the lock", t.ofBoat(0, 3), 6);
    }

    private static void promise26MeetInBend() {
        Towmaster t = withBoats(1, 0, 0, 1);
        t.reach(0, 2, 30, 4, true);
        t.go(0, 1);
        t.pass(1);
        t.go(1, 1);
        t.go(2, 0);
        t.radio(0, 1, true);
        t.radio(0, 2, true);
        Check.due("behind one in a bend", t.bars(1), Towmaster.MEET);
        Check.due("against one in a bend", t.bars(2), Towmaster.MEET);
        t.reach(1, 2, 30, 4, true);
        t.go(2, 2);
        Check.due("another bend", t.bars(2), 0);
    }

    private static void promise26MeetInReach() {
        Towmaster t = withBoats(9, 0, 1, 0);
        t.barge(Towmaster.OPEN, 0, 0);
        t.barge(Towmaster.OPEN, 0, 0);
        t.couple(0, 1);
        t.couple(0, 0);
        t.reach(0, 4, 30, 2, false);
        t.pass(1);
        t.go(0, 1);
        t.pass(1);
        t.go(1, 0);
        t.go(2, 1);
        Check.due("2 and 1 in a width of 2", t.bars(1), Towmaster.MEET);
        Check.due("the same way", t.bars(2), 0);
        t.radio(0, 2, true);
        t.radio(1, 2, true);
        Check.due("agreed with others", t.bars(1), Towmaster.MEET);
        t.radio(1, 0, true);
        Check.due("agreed with that", t.bars(1), 0);
        t.radio(0, 1, false);
        t.pass(8);
        Check.due("gone", t.ofBoat(1, 1), 0);
        Check.due("waited till then", t.waited(1, Towmaster.MEET), 7);

        Towmaster w = withBoats(9, 0, 1);
        w.reach(0, 4, 30, 2, false);
        w.go(0, 1);
        w.pass(1);
        w.go(1, 0);
        Check.due("1 and 1 in a width of 2", w.bars(1), 0);
    }

    private static void promise26LowerGoalsFirst() {
        Towmaster t = withBoats(1, 0, 1, 1);
        t.reach(0, 2, 30, 1, false);
        t.go(0, 1);
        t.go(1, 0);
        t.go(2, 0);
        t.pass(1);
        Check.due("down goes first", t.ofBoat(1, 1), 0);
        Check.due("the same way behind it", t.ofBoat(2, 1), 0);
        Check.due("up meets it", t.ofBoat(0, 10), Towmaster.MEET);
        t.pass(2);
        Check.due("both are out: up enters", t.ofBoat(0, 1), 0);

        Towmaster n = withBoats(1, 3, 2);
        n.reach(2, 2, 30, 1, true);
        n.go(0, 0);
        n.go(1, 3);
        n.pass(1);
        Check.due("by what lies below where it stands", n.ofBoat(0, 1), 2);
        Check.due("a goal above", n.ofBoat(1, 10), Towmaster.MEET);
    }

    private static void promise26LockBusy() {
        Towmaster t = withBoats(1, 0, 0);
        t.lock(0, 1, 3, false);
        t.go(0, 1);
        t.pass(1);
        t.go(1, 1);
        Check.due("a boat is in the lock", t.bars(1), Towmaster.LOCK);
        t.pass(1);
        Check.due("out, and in", t.ofBoat(1, 1), 0);
        Check.due("an hour each", t.ofBoat(0, 0), 1);
        Check.due("never waited", t.all(6), 0);
    }

    private static void promise26LockOneAtATime() {
        Towmaster t = withBoats(1, 1, 1, 1);
        t.lock(0, 1, 1, false);
        for (int boat = 0; boat < 3; boat++) {
            t.go(boat, 0);
        }
        Check.due("the lowest number", t.bars(0), 0);
        Check.due("the next", t.bars(1), Towmaster.LOCK);
        t.pass(3);
        Check.due("waited", t.waited(0, Towmaster.LOCK), 0);
        Check.due("waited", t.waited(1, Towmaster.LOCK), 1);
        Check.due("waited", t.waited(2, Towmaster.LOCK), 2);
    }

    /** Two boats each way, and the turns of the lock. */
    private static String turns(int turns, int... points) {
        Towmaster t = withBoats(1, points);
        t.lock(3, 1, turns, false);
        for (int boat = 0; boat < points.length; boat++) {
            t.go(boat, 7 - points[boat]);
        }
        StringBuilder order = new StringBuilder();
        for (int hour = 0; hour < points.length; hour++) {
            t.pass(1);
            for (int boat = 0; boat < points.length; boat++) {
                if (t.ofBoat(boat, 1) == 3) {
                    order.append(boat);
                }
            }
        }
        return order.toString();
    }

    private static void order(String got, String due) {
        if (!got.equals(due)) {
            Check.fail("into the lock went " + got + ", due is " + due);
        }
        Check.due("order", got.length(), due.length());
    }

    private static void promise26LockTurns() {
        order(turns(1, 3, 3, 3, 4, 4, 4), "304152");
        order(turns(2, 3, 3, 3, 4, 4, 4), "340152");
        order(turns(3, 3, 3, 3, 4, 4, 4), "345012");
        order(turns(2, 3, 3, 3, 4), "3012");
        order(turns(1, 4, 4, 4, 3), "0312");
    }

    private static void promise26LockNoneOpposite() {
        order(turns(1, 4, 4, 4, 4), "0123");
        order(turns(2, 3, 3, 3), "012");
        Towmaster t = withBoats(1, 1, 1, 1, 0);
        t.lock(0, 1, 2, false);
        for (int boat = 0; boat < 3; boat++) {
            t.go(boat, 0);
        }
        t.pass(4);
        t.boat(1, 1, 1);
        t.fuel(4, 99);
        t.go(4, 0);
        t.go(3, 1);
        Check.due("three went down, more than their turns", t.bars(4), Towmaster.LOCK);
        Check.due("up goes ahead", t.bars(3), 0);
        t.pass(1);
        t.go(0, 1);
        t.pass(1);
        Check.due("one went up, so up goes ahead", t.ofBoat(0, 1), 0);
        t.go(1, 1);
        Check.due("two went up", t.bars(1), Towmaster.LOCK);
        t.pass(1);
        Check.due("so down goes ahead", t.ofBoat(4, 1), 0);
    }

    private static void promise26LockEarlier() {
        Towmaster t = withBoats(1, 3, 1);
        t.lock(0, 1, 3, false);
        t.reach(1, 1, 30, 4, false);
        t.weather(0, 0, true);
        t.go(0, 0);
        t.pass(2);
        t.go(1, 0);
        t.pass(2);
        Check.due("it stands there too", t.ofBoat(0, 0), 1);
        t.weather(0, 0, false);
        Check.due("told in the earlier hour, though it has the higher number", t.bars(1), 0);
        Check.due("it came later", t.bars(0), Towmaster.LOCK);
    }

    private static void promise26LockToldLater() {
        Towmaster t = withBoats(1, 1, 1);
        t.lock(0, 1, 3, false);
        t.weather(0, 0, true);
        t.go(0, 0);
        t.go(1, 0);
        t.pass(1);
        t.weather(0, 0, false);
        Check.due("both in one hour: by numbers", t.bars(0), 0);
        t.go(0, 2);
        t.go(0, 0);
        Check.due("told anew, which is later", t.bars(0), Towmaster.LOCK);
        Check.due("told earlier", t.bars(1), 0);
    }

    private static void promise26LockBarredDoNotWait() {
        Towmaster t = withBoats(1, 1, 1, 0);
        t.lock(0, 1, 1, false);
        t.barge(Towmaster.OPEN, 1, 0);
        t.couple(0, 0);
        t.go(0, 0);
        t.go(1, 0);
        t.go(2, 1);
        Check.due("it works", t.bars(0), Towmaster.WORK);
        Check.due("so the next one is the first", t.bars(1), 0);
        Check.due("and up waits", t.bars(2), Towmaster.LOCK);
        t.go(1, 2);
        Check.due("none waits to go down", t.bars(2), 0);
        t.pass(1);
        Check.due("its work is done as the hour begins, so down goes ahead", t.ofBoat(0, 1), 0);
    }

    private static void promise28Waited() {
        Towmaster t = withBoats(1, 0);
        t.go(0, 1);
        t.weather(0, 0, true);
        t.pass(5);
        t.weather(0, 1, false);
        t.pass(3);
        for (int cause = Towmaster.WORK; cause <= Towmaster.AGROUND; cause++) {
            int due = cause == Towmaster.SHUT ? 5 : cause == Towmaster.WEAK ? 3 : 0;
            Check.due("waited by " + cause, t.waited(0, cause), due);
        }
        Check.noSuch(t, "boat 1", () -> t.waited(1, Towmaster.WORK));
        Check.noSuch(t, "boat -1", () -> t.waited(-1, Towmaster.WORK));
        Check.noSuch(t, "cause 0", () -> t.waited(0, 0));
        Check.noSuch(t, "cause 10", () -> t.waited(0, 10));
        t.go(0, 0);
        t.pass(1);
        Check.due("without a goal it does not wait", t.ofBoat(0, 10), 0);
        Check.due("all waited", t.all(6), 8);
    }

    private static void promise34All() {
        Towmaster t = withBoats(9, 0, 5);
        t.contract(Towmaster.COAL, 0, 1, 20, 99, 100);
        t.contract(Towmaster.OIL, 0, 1, 20, 0, 50);
        t.barge(Towmaster.OPEN, 0, 0);
        t.barge(Towmaster.TANK, 0, 1);
        t.barge(Towmaster.OPEN, 0, 1);
        t.couple(0, 2);
        t.drop(0, 2, 0);
        t.couple(0, 2);
        t.load(0, 0, 6);
        t.load(1, 1, 6);
        t.couple(0, 0);
        t.couple(0, 1);
        t.drop(0, 2, 1);
        t.go(0, 1);
        t.go(1, 0);
        t.weather(4, 0, true);
        t.stage(20, 3);
        t.pass(30);
        t.drop(0, 0, 0);
        t.drop(0, 1, 1);
        t.unload(0);
        t.unload(1);
        t.clean(0);
        t.clean(1);
        Check.due("the hour", t.all(0), 30);
        Check.due("the stage", t.all(1), 17);
        Check.due("what contracts paid", t.all(2), 6 * 10 + 6 * (5 - 30));
        Check.due("shiftings", t.all(3), 0);
        t.couple(0, 0);
        t.drop(0, 0, 1);
        t.couple(0, 1);
        Check.due("shiftings", t.all(3), 3);
        Check.due("cleaning", t.all(4), 40);
        Check.due("fuel", t.all(5), 1998);
        Check.due("waiting", t.all(6), 30 + t.waited(0, Towmaster.WORK));
        Check.due("work kept one waiting", t.waited(0, Towmaster.WORK), 2);
        Check.noSuch(t, "what 7", () -> t.all(7));
        Check.noSuch(t, "what -1", () -> t.all(-1));
    }
}
