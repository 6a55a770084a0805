/** The sentences of 'An hour', on both sides of each boundary that they name. */
public final class HourEdgeTest {
    public static void main(String[] args) {
        asManyUnitsOfWorkAsHands();
        workIsDoneWithoutAGoal();
        anHourLessIsLeft();
        agroundInAReachAlone();
        theGoalIsNoneIfItIsThatPoint();
        lowerGoalsFirstByNumbers();
        shut();
        shallowInALock();
        wideInAReach();
        wideInALock();
        weakByWeight();
        weakByIce();
        fuelForTheHours();
        hoursOfAReach();
        hoursOfALock();
        meetInABend();
        meetInAReach();
        noMeetingInALock();
        firstIntoALock();
        fewerThanItsTurns();
        theEarlierHour();
        causeOfTheLatestHour();
        eachCauseIsCountedApart();
        Check.end("HourEdgeTest");
    }

    private static Towmaster withBoats(int power, int... points) {
        Towmaster t = new Towmaster();
        for (int boat = 0; boat < points.length; boat++) {
            t.boat(power, 4, points[boat]);
            t.fuel(boat, 999);
        }
        return t;
    }

    /** Brings so many barges to the tow of a boat, numbered from those that there are. */
    private static void tow(Towmaster t, int boat, int count) {
        for (int k = 0; k < count; k++) {
            int point = t.ofBoat(boat, 0);
            t.couple(boat, t.barge(Towmaster.OPEN, point, 0));
        }
        while (t.ofBoat(boat, 4) > 0) {
            t.pass(1);
        }
    }

    private static void asManyUnitsOfWorkAsHands() {
        for (int hands = 1; hands <= 4; hands++) {
            for (int barges = 1; barges <= 4; barges++) {
                Towmaster t = new Towmaster();
                t.boat(1, hands, 0);
                for (int k = 0; k < barges; k++) {
                    t.couple(0, t.barge(Towmaster.OPEN, 0, 0));
                }
                for (int hour = 0; hour < 10; hour++) {
                    Check.due("work after " + hour + " hours of " + hands + " hands", t.ofBoat(0, 4),
                            Math.max(0, 2 * barges - hands * hour));
                    t.pass(1);
                }
            }
        }
    }

    private static void workIsDoneWithoutAGoal() {
        Towmaster t = withBoats(1, 0);
        t.couple(0, t.barge(Towmaster.OPEN, 0, 0));
        t.couple(0, t.barge(Towmaster.OPEN, 0, 0));
        t.couple(0, t.barge(Towmaster.OPEN, 0, 0));
        t.pass(1);
        Check.due("done without a goal", t.ofBoat(0, 4), 2);
        Check.due("which is no waiting", t.ofBoat(0, 10), 0);
        t.drop(0, 2, 0);
        t.drop(0, 1, 0);
        t.go(0, 1);
        Check.due("4 for 4 hands", t.ofBoat(0, 4), 4);
        t.pass(1);
        Check.due("none is left, and it enters in this hour", t.ofBoat(0, 1), 0);
        Towmaster one = withBoats(1, 0);
        one.couple(0, one.barge(Towmaster.OPEN, 0, 0));
        one.couple(0, one.barge(Towmaster.OPEN, 0, 0));
        one.drop(0, 1, 0);
        one.go(0, 1);
        one.pass(1);
        Check.due("a unit is left", one.ofBoat(0, 4), 1);
        Check.due("so it waits", one.ofBoat(0, 10), Towmaster.WORK);
    }

    private static void anHourLessIsLeft() {
        for (int hours = 1; hours <= 9; hours++) {
            Towmaster t = withBoats(1, 1);
            t.reach(0, hours, 30, 1, false);
            t.go(0, 0);
            for (int left = hours; left > 0; left--) {
                t.pass(1);
                Check.due("left of " + hours, t.ofBoat(0, 9), left);
                Check.due("in its section", t.ofBoat(0, 1), 0);
            }
            t.pass(1);
            Check.due("at the other end", t.ofBoat(0, 0), 0);
            Check.due("none is left", t.ofBoat(0, 9), 0);
        }
    }

    private static void agroundInAReachAlone() {
        for (int kind = 0; kind < 2; kind++) {
            Towmaster t = withBoats(1, 0);
            if (kind == 1) {
                t.lock(0, 1, 1, false);
            }
            t.go(0, 1);
            t.pass(1);
            int left = t.ofBoat(0, 9);
            t.stage(-30, 0);
            t.pass(1);
            Check.due("left in a " + (kind == 0 ? "reach" : "lock"), t.ofBoat(0, 9), kind == 0 ? left : 0);
            Check.due("waited", t.waited(0, Towmaster.AGROUND), kind == 0 ? 1 : 0);
        }
    }

    private static void theGoalIsNoneIfItIsThatPoint() {
        Towmaster t = withBoats(1, 0);
        t.go(0, 2);
        t.pass(4);
        Check.due("on its way", t.ofBoat(0, 2), 2);
        t.pass(1);
        Check.due("a point, but not the goal: it goes on", t.ofBoat(0, 1), 1);
        Check.due("with its goal", t.ofBoat(0, 2), 2);
        t.pass(4);
        Check.due("the goal", t.ofBoat(0, 0), 2);
        Check.due("so none any more", t.ofBoat(0, 2), Towmaster.NONE);
    }

    private static void lowerGoalsFirstByNumbers() {
        Towmaster t = withBoats(1, 2, 3, 2, 3);
        t.reach(2, 1, 30, 4, true);
        t.go(0, 3);
        t.go(1, 2);
        t.go(2, 3);
        t.go(3, 2);
        int[] order = {1, 3, 0, 2};
        for (int k = 0; k < 4; k++) {
            t.pass(1);
            for (int boat = 0; boat < 4; boat++) {
                Check.due("in the bend in its turn " + k + ", boat " + boat, t.ofBoat(boat, 1) == 2, boat == order[k]);
            }
            if (k >= 2) {
                t.pass(1);
            }
        }
    }

    private static void shut() {
        for (int k = 0; k < 32; k++) {
            boolean isFoggy = (k & 1) != 0;
            boolean isDown = (k & 2) != 0;
            boolean isBend = (k & 4) != 0;
            boolean isLock = (k & 8) != 0;
            boolean isShut = (k & 16) != 0;
            Towmaster t = withBoats(1, 3);
            int section = isDown ? 2 : 3;
            t.reach(section, 1, 30, 1, isBend);
            if (isLock) {
                t.lock(section, 1, 1, false);
            }
            t.weather(section, 0, isShut);
            t.fog(isFoggy);
            t.go(0, isDown ? 0 : 7);
            boolean isBarred = isShut || isFoggy && isDown && isBend && !isLock;
            Check.due("shut, case " + k, t.bars(0), isBarred ? Towmaster.SHUT : 0);
            t.weather(5 - section, 0, true);
            Check.due("another section, case " + k, t.bars(0), isBarred ? Towmaster.SHUT : 0);
        }
    }

    private static void shallowInALock() {
        Towmaster t = withBoats(1, 0);
        t.reach(0, 1, 12, 1, false);
        t.lock(0, 1, 1, false);
        t.go(0, 1);
        Check.due("12 for 10 and 2", t.bars(0), 0);
        Check.due("asked ahead", t.hours(0, 1), 1);
        t.stage(-1, 0);
        Check.due("11 for 10 and 2", t.bars(0), Towmaster.SHALLOW);
        Check.due("asked ahead", t.hours(0, 1), Towmaster.NONE);
    }

    private static void wideInAReach() {
        for (int places = 1; places <= 4; places++) {
            Towmaster t = withBoats(9, 0);
            t.wide(0, places);
            for (int barges = 0; barges <= 5; barges++) {
                tow(t, 0, barges == 0 ? 0 : 1);
                t.go(0, 1);
                for (int width = 1; width <= 4; width++) {
                    t.reach(0, 1, 30, width, false);
                    int due = Math.max(1, Math.min(barges, places)) > width ? Towmaster.WIDE : 0;
                    String what = barges + " barges in rows of " + places + ", width " + width;
                    Check.due(what, t.bars(0), due);
                    Check.due(what + ", asked ahead", t.hours(0, 1), due == 0 ? 2 : Towmaster.NONE);
                }
                t.go(0, 0);
            }
        }
    }

    private static void wideInALock() {
        Towmaster t = withBoats(9, 0);
        for (int barges = 0; barges <= 12; barges++) {
            tow(t, 0, barges == 0 ? 0 : 1);
            t.go(0, 1);
            for (int chamber = 1; chamber <= 9; chamber++) {
                t.lock(0, chamber, 1, false);
                int due = barges > 2 * chamber ? Towmaster.WIDE : 0;
                Check.due(barges + " barges in a chamber of " + chamber, t.bars(0), due);
            }
            t.go(0, 0);
        }
    }

    /** What bars a boat of the power 1 with a barge of so much cargo from a section above or below. */
    private static int barOf(int cargo, boolean isUp, int stage) {
        Towmaster t = withBoats(1, 1);
        t.reach(0, 2, 99, 1, false);
        t.reach(1, 2, 99, 1, false);
        t.contract(Towmaster.COAL, 1, 2, 99, 99, 100);
        t.barge(Towmaster.OPEN, 1, 0);
        t.load(0, 0, cargo);
        t.couple(0, 0);
        t.pass(1);
        t.stage(stage, 0);
        t.go(0, isUp ? 2 : 0);
        int hours = isUp ? 4 : 2;
        Check.due("asked ahead", t.hours(0, isUp ? 2 : 0), t.bars(0) == 0 ? hours : Towmaster.NONE);
        return t.bars(0);
    }

    private static void weakByWeight() {
        int[] stages = {-1, 0, 9, 10, 19, 20, 59, 60};
        int[] tenths = {0, 0, 0, 1, 1, 2, 5, 6};
        for (int k = 0; k < stages.length; k++) {
            if (tenths[k] < 6) {
                Check.due("just light enough up, stage " + stages[k], barOf(7 - tenths[k], true, stages[k]), 0);
            }
            Check.due("a unit too heavy up", barOf(8 - tenths[k], true, stages[k]), Towmaster.WEAK);
            Check.due("just light enough down, stage " + stages[k], barOf(11 - tenths[k], false, stages[k]), 0);
            Check.due("a unit too heavy down", barOf(12 - tenths[k], false, stages[k]), Towmaster.WEAK);
        }
    }

    private static void weakByIce() {
        for (int power = 1; power <= 9; power++) {
            for (int ice = 0; ice <= 3; ice++) {
                for (int kind = 0; kind < 2; kind++) {
                    Towmaster t = withBoats(power, 0);
                    if (kind == 1) {
                        t.lock(0, 1, 1, false);
                    }
                    t.weather(0, ice, false);
                    t.go(0, 1);
                    int due = power < 2 * ice ? Towmaster.WEAK : 0;
                    Check.due("power " + power + ", ice " + ice, t.bars(0), due);
                }
            }
        }
    }

    private static void fuelForTheHours() {
        for (int power = 6; power <= 9; power++) {
            for (int ice = 0; ice <= 3; ice += 3) {
                fuelFor(power, ice, true, false, 2 * 5 + ice);
                fuelFor(power, ice, false, false, 5 + ice);
                fuelFor(power, ice, true, true, 1 + ice);
                fuelFor(power, ice, false, true, 1 + ice);
            }
        }
    }

    private static void fuelFor(int power, int ice, boolean isUp, boolean isLock, int hours) {
        Towmaster t = new Towmaster();
        t.boat(power, 1, 1);
        int section = isUp ? 1 : 0;
        t.reach(section, 5, 30, 1, false);
        if (isLock) {
            t.lock(section, 1, 1, false);
        }
        t.weather(section, ice, false);
        t.go(0, isUp ? 2 : 0);
        t.fuel(0, power * hours - 1);
        Check.due("a unit too little", t.bars(0), Towmaster.FUEL);
        t.pass(1);
        Check.due("it uses none", t.ofBoat(0, 3), power * hours - 1);
        Check.due("it waited", t.waited(0, Towmaster.FUEL), 1);
        t.fuel(0, 1);
        Check.due("just enough", t.bars(0), 0);
        t.pass(1);
        Check.due("all is used", t.ofBoat(0, 3), 0);
        Check.due("so many hours are left", t.ofBoat(0, 9), hours);
    }

    private static void hoursOfAReach() {
        Towmaster t = withBoats(9, 3);
        for (int hours = 1; hours <= 9; hours++) {
            t.reach(2, hours, 30, 1, false);
            t.reach(3, hours, 30, 1, true);
            for (int ice = 0; ice <= 3; ice++) {
                t.weather(2, ice, false);
                t.weather(3, ice, false);
                Check.due("down", t.hours(0, 2), hours + ice);
                Check.due("up", t.hours(0, 4), 2 * hours + ice);
            }
        }
    }

    private static void hoursOfALock() {
        Towmaster t = withBoats(9, 3);
        for (int barges = 0; barges <= 12; barges++) {
            tow(t, 0, barges == 0 ? 0 : 1);
            for (int k = 0; k < 9 * 2 * 4; k++) {
                int chamber = k / 8 + 1;
                boolean helper = k % 2 == 0;
                int ice = k / 2 % 4;
                t.lock(2, chamber, 1, helper);
                t.lock(3, chamber, 1, helper);
                t.weather(2, ice, false);
                t.weather(3, ice, false);
                int due = (barges <= chamber ? 1 : helper ? 2 : 3) + ice;
                due = barges > 2 * chamber ? Towmaster.NONE : due;
                Check.due(barges + " up through a chamber of " + chamber + ", case " + k, t.hours(0, 4), due);
                Check.due(barges + " down through a chamber of " + chamber + ", case " + k, t.hours(0, 2), due);
            }
        }
    }

    private static void meetInABend() {
        for (int k = 0; k < 4; k++) {
            boolean isSameWay = k % 2 == 0;
            boolean haveAgreed = k / 2 == 1;
            Towmaster t = withBoats(1, 0, isSameWay ? 0 : 1);
            t.reach(0, 1, 30, 4, true);
            t.radio(0, 1, haveAgreed);
            t.go(1, isSameWay ? 1 : 0);
            Check.due("an empty bend", t.bars(1), 0);
            t.go(1, t.ofBoat(1, 0));
            t.go(0, 1);
            t.pass(1);
            t.go(1, isSameWay ? 1 : 0);
            Check.due("a bend with a boat in it, case " + k, t.bars(1), Towmaster.MEET);
            t.pass(1);
            Check.due("in its last hour, case " + k, t.ofBoat(1, 10), Towmaster.MEET);
            t.pass(1);
            Check.due("once it is out", t.ofBoat(1, 1), 0);
        }
    }

    private static void meetInAReach() {
        for (int first = 0; first <= 3; first++) {
            for (int second = 0; second <= 3; second++) {
                for (int width = 3; width <= 4; width++) {
                    meetInAReach(first, second, width);
                }
            }
        }
    }

    /** A tow of so many barges, abreast, goes up; another would go down, and one more of its kind up. */
    private static void meetInAReach(int first, int second, int width) {
        Towmaster t = withBoats(9, 0, 1, 0);
        for (int boat = 0; boat < 3; boat++) {
            t.wide(boat, 4);
        }
        tow(t, 0, first);
        tow(t, 1, second);
        tow(t, 2, second);
        t.reach(0, 4, 30, width, false);
        t.go(0, 1);
        t.pass(1);
        t.go(1, 0);
        t.go(2, 1);
        boolean isTight = Math.max(1, first) + Math.max(1, second) > width;
        String what = "a tow of " + second + " against one of " + first + " in a width of " + width;
        Check.due(what, t.bars(1), isTight ? Towmaster.MEET : 0);
        Check.due("the same way", t.bars(2), 0);
        t.radio(1, 2, true);
        t.radio(0, 2, true);
        Check.due(what + ", not agreed", t.bars(1), isTight ? Towmaster.MEET : 0);
        t.radio(0, 1, true);
        Check.due(what + ", agreed", t.bars(1), 0);
    }

    /** A lock has neither a width nor a bend, though it was a narrow bend before. */
    private static void noMeetingInALock() {
        Towmaster t = withBoats(9, 0, 1, 0);
        tow(t, 0, 2);
        tow(t, 1, 2);
        t.reach(0, 2, 30, 1, true);
        t.lock(0, 1, 3, false);
        t.go(0, 1);
        t.pass(1);
        t.go(1, 0);
        t.go(2, 1);
        Check.due("against one in the lock", t.bars(1), Towmaster.LOCK);
        Check.due("behind one in the lock", t.bars(2), Towmaster.LOCK);
        t.radio(0, 1, true);
        Check.due("agreed or not", t.bars(1), Towmaster.LOCK);
        t.pass(1);
        Check.due("waited", t.waited(1, Towmaster.LOCK), 1);
        Check.due("without a meeting", t.waited(1, Towmaster.MEET), 0);
    }

    private static void firstIntoALock() {
        for (int turns = 1; turns <= 3; turns++) {
            Towmaster t = withBoats(1, 0, 1);
            t.lock(0, 1, turns, false);
            t.go(0, 1);
            Check.due("none goes down: up goes first", t.bars(0), 0);
            t.go(1, 0);
            Check.due("it is as if none had gone down: down goes first", t.bars(1), 0);
            Check.due("so up waits", t.bars(0), Towmaster.LOCK);
            t.pass(1);
            Check.due("waited", t.ofBoat(0, 10), Towmaster.LOCK);
            Check.due("went down", t.ofBoat(1, 1), 0);
        }
    }

    /** Which way goes after so many went one way, if one waits on each side. */
    private static void fewerThanItsTurns() {
        for (int turns = 1; turns <= 3; turns++) {
            for (int went = 0; went <= 4; went++) {
                turns(turns, went, false);
                turns(turns, went, true);
            }
        }
    }

    private static void turns(int turns, int went, boolean isUp) {
        int start = isUp ? 0 : 1;
        Towmaster t = withBoats(1, start, start, start, start, start, 1 - start);
        t.lock(0, 1, turns, false);
        for (int boat = 0; boat < went; boat++) {
            t.go(boat, 1 - start);
            t.pass(2);
        }
        t.go(4, 1 - start);
        t.go(5, start);
        // Ahead of the first boat it is as if none had gone down: that turn is not one of those that go up.
        boolean isFormer = went < turns && !(isUp && went == 0);
        String what = went + " of " + turns + " turns went " + (isUp ? "up" : "down");
        Check.due(what + ": one more that way", t.bars(4), isFormer ? 0 : Towmaster.LOCK);
        Check.due(what + ": the other way", t.bars(5), isFormer ? Towmaster.LOCK : 0);
        t.go(5, 1 - start);
        Check.due(what + ": none the other way", t.bars(4), 0);
        t.go(4, start);
        t.go(5, start);
        Check.due(what + ": none that way", t.bars(5), 0);
    }

    private static void theEarlierHour() {
        Towmaster t = withBoats(1, 1, 1, 1);
        t.lock(0, 1, 1, false);
        t.weather(0, 0, true);
        t.pass(2);
        t.go(2, 0);
        t.go(1, 0);
        t.pass(1);
        t.go(0, 0);
        t.weather(0, 0, false);
        Check.due("told in the same hour, the lower number", t.bars(1), 0);
        Check.due("told in the same hour, the higher number", t.bars(2), Towmaster.LOCK);
        Check.due("told an hour later, the lowest number", t.bars(0), Towmaster.LOCK);
        for (int told = 1; told <= 5; told++) {
            theLaterOfBothCounts(told, 0, 1);
            theLaterOfBothCounts(told, 1, 0);
        }
    }

    /** One comes to the point 1 in the hour 3, the other is there all along and told its goal in some hour. */
    private static void theLaterOfBothCounts(int told, int coming, int standing) {
        Towmaster t = coming == 0 ? withBoats(1, 2, 1) : withBoats(1, 1, 2);
        t.lock(0, 1, 1, false);
        t.weather(0, 0, true);
        t.go(coming, 0);
        t.pass(told);
        t.go(standing, 0);
        t.pass(6 - told);
        Check.due("it came", t.ofBoat(coming, 0), 1);
        t.weather(0, 0, false);
        int first = told < 3 ? standing : told > 3 ? coming : 0;
        Check.due("came in the hour 3, told in the hour " + told, t.bars(first), 0);
        Check.due("the other one", t.bars(1 - first), Towmaster.LOCK);
    }

    private static void causeOfTheLatestHour() {
        Towmaster t = withBoats(1, 0);
        Check.due("before any hour", t.ofBoat(0, 10), 0);
        t.go(0, 1);
        t.weather(0, 0, true);
        Check.due("not before the hour", t.ofBoat(0, 10), 0);
        t.pass(1);
        Check.due("the latest hour", t.ofBoat(0, 10), Towmaster.SHUT);
        t.weather(0, 0, false);
        Check.due("still the latest hour", t.ofBoat(0, 10), Towmaster.SHUT);
        t.pass(1);
        Check.due("it entered", t.ofBoat(0, 10), 0);
        Check.due("waited in all", t.all(6), 1);
    }

    private static void eachCauseIsCountedApart() {
        for (int cause = Towmaster.WORK; cause <= Towmaster.AGROUND; cause++) {
            Towmaster t = barredBy(cause);
            Check.due("none waited yet", t.all(6), 0);
            if (cause != Towmaster.AGROUND) {
                Check.due("it would wait by " + cause, t.bars(0), cause);
            }
            for (int hours = 1; hours <= 2; hours++) {
                t.pass(1);
                Check.due("it waits by " + cause, t.ofBoat(0, 10), cause);
                for (int other = Towmaster.WORK; other <= Towmaster.AGROUND; other++) {
                    Check.due("by " + cause + ", counted for " + other, t.waited(0, other), other == cause ? hours : 0);
                }
                Check.due("none else waited", t.all(6), hours);
            }
        }
    }

    /** A boat at the point 0 whose goal is 1, and which waits for that cause alone, for two hours at least. */
    private static Towmaster barredBy(int cause) {
        Towmaster t = new Towmaster();
        t.boat(1, 1, 0);
        t.fuel(0, cause == Towmaster.FUEL ? 3 : 4);
        if (cause == Towmaster.WIDE) {
            tow(t, 0, 2);
            t.reach(0, 2, 30, 1, false);
        } else if (cause == Towmaster.SHALLOW) {
            t.stage(-19, 0);
        } else if (cause == Towmaster.MEET || cause == Towmaster.LOCK) {
            t.reach(0, 9, 30, 4, cause == Towmaster.MEET);
            if (cause == Towmaster.LOCK) {
                t.lock(0, 1, 1, false);
            }
            t.weather(0, 3, false);
            t.boat(6, 1, 1);
            t.fuel(1, 99);
            t.go(1, 0);
            t.pass(1);
            t.weather(0, 0, false);
            t.fuel(0, 99);
        } else if (cause == Towmaster.AGROUND) {
            t.go(0, 1);
            t.pass(1);
            t.stage(-21, 0);
        }
        t.go(0, 1);
        t.weather(0, cause == Towmaster.WEAK ? 1 : 0, cause == Towmaster.SHUT);
        if (cause == Towmaster.WORK) {
            t.couple(0, t.barge(Towmaster.OPEN, 0, 0));
            t.couple(0, t.barge(Towmaster.OPEN, 0, 0));
        }
        return t;
    }
}
