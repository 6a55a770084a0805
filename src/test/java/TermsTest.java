/**
 * The sentences of 'Terms' that name a boundary, each in a test of its own: what is so just up to it, and what is so
 * from the next value on.
 */
public final class TermsTest {
    public static void main(String[] args) {
        pointsAndSections();
        theStageBecomesLessWhenADayBegins();
        theStageIsNeverBelowMinus30();
        theStageIsNeverAbove60();
        waterIsDepthAndStage();
        aBargeIsLadenIfItHasSomeCargo();
        weightAndDraughtOfABarge();
        draughtIsTheGreatestOfAll();
        aTowWithoutBarges();
        widthOfATow();
        eachBargeLiesOutsideOfThoseAheadOfIt();
        coupleShiftsThoseOutside();
        dropMovesUpThoseBehind();
        coupleSideBySide();
        dropSideBySide();
        pushIsLessByTheTenthOfTheStage();
        aGoalAtWhichABoatStands();
        agreementIsOverAtAPoint();
        Check.end("TermsTest");
    }

    private static Towmaster withBoat(int power, int point) {
        Towmaster t = new Towmaster();
        t.boat(power, 4, point);
        t.fuel(0, 999);
        return t;
    }

    private static void pointsAndSections() {
        Towmaster t = withBoat(1, 0);
        t.go(0, 7);
        for (int section = 0; section <= 6; section++) {
            t.pass(1);
            Check.due("section going up", t.ofBoat(0, 1), section);
            t.pass(3);
            Check.due("its last hour", t.ofBoat(0, 1), section);
        }
        t.pass(1);
        Check.due("the highest point", t.ofBoat(0, 0), 7);
        t.go(0, 0);
        for (int section = 6; section >= 0; section--) {
            t.pass(1);
            Check.due("section going down", t.ofBoat(0, 1), section);
            t.pass(1);
            Check.due("its last hour", t.ofBoat(0, 1), section);
        }
        t.pass(1);
        Check.due("the lowest point", t.ofBoat(0, 0), 0);
        Check.due("there and back", t.all(0), (7 * 4 + 1) + (7 * 2 + 1));
    }

    private static void theStageBecomesLessWhenADayBegins() {
        Towmaster t = new Towmaster();
        t.stage(20, 3);
        for (int hour = 1; hour <= 100; hour++) {
            t.pass(1);
            Check.due("stage in the hour " + hour, t.all(1), 20 - 3 * (hour / 24));
        }
        Towmaster inOne = new Towmaster();
        inOne.pass(23);
        inOne.stage(20, 3);
        inOne.pass(48);
        Check.due("from 23 to 71: twice", inOne.all(1), 14);
        inOne.stage(20, 3);
        inOne.pass(48);
        Check.due("from 71 to 119: twice", inOne.all(1), 14);
        inOne.pass(1);
        Check.due("120", inOne.all(1), 11);
        inOne.stage(20, 3);
        inOne.pass(23);
        Check.due("told as a day has begun", inOne.all(1), 20);
    }

    private static void theStageIsNeverBelowMinus30() {
        for (int fall = 1; fall <= 9; fall++) {
            for (int stage = -30; stage <= -15; stage++) {
                Towmaster t = new Towmaster();
                t.stage(stage, fall);
                int due = stage - fall < -30 ? -30 : stage - fall;
                Check.due("water to be", t.water(0, 1), 30 + due);
                t.pass(24);
                Check.due("stage " + stage + " less " + fall, t.all(1), due);
            }
        }
        Towmaster t = new Towmaster();
        t.stage(-29, 9);
        t.pass(48);
        Check.due("never below -30", t.all(1), -30);
        t.stage(t.all(1), -1);
        t.pass(24);
        Check.due("from there it rises", t.all(1), -29);
    }

    private static void theStageIsNeverAbove60() {
        for (int fall = -9; fall <= -1; fall++) {
            for (int stage = 45; stage <= 60; stage++) {
                Towmaster t = new Towmaster();
                t.stage(stage, fall);
                int due = stage - fall > 60 ? 60 : stage - fall;
                Check.due("water to be", t.water(0, 1), 30 + due);
                t.pass(24);
                Check.due("stage " + stage + " less " + fall, t.all(1), due);
            }
        }
        Towmaster t = new Towmaster();
        t.stage(59, -9);
        t.pass(48);
        Check.due("never above 60", t.all(1), 60);
        t.stage(t.all(1), 1);
        t.pass(24);
        Check.due("from there it falls", t.all(1), 59);
    }

    private static void waterIsDepthAndStage() {
        Towmaster t = new Towmaster();
        t.reach(0, 1, 10, 1, false);
        t.reach(1, 1, 99, 1, false);
        for (int stage = -30; stage <= 60; stage += 45) {
            t.stage(stage, 0);
            Check.due("least depth", t.water(0, 0), 10 + stage);
            Check.due("greatest depth", t.water(1, 0), 99 + stage);
            Check.due("in 30 days, without a fall", t.water(1, 30), 99 + stage);
        }
        t.stage(60, 3);
        Check.due("in 29 days", t.water(1, 29), 99 + 60 - 87);
        Check.due("in 30 days", t.water(1, 30), 99 + 60 - 90);
        t.stage(-30, -3);
        Check.due("in 29 days", t.water(1, 29), 99 - 30 + 87);
        Check.due("in 30 days", t.water(1, 30), 99 - 30 + 90);
    }

    private static void aBargeIsLadenIfItHasSomeCargo() {
        for (int cargo = 0; cargo <= 1; cargo++) {
            Towmaster t = withBoat(9, 0);
            t.barge(Towmaster.TANK, 0, 0);
            t.barge(Towmaster.COVERED, 0, 1);
            t.contract(Towmaster.OIL, 0, 1, 9, 9, 100);
            t.contract(Towmaster.GRAIN, 0, 1, 9, 9, 100);
            t.load(1, 1, 1);
            if (cargo == 1) {
                t.load(0, 0, 1);
            }
            t.couple(0, 0);
            if (cargo == 1) {
                Check.notNow(t, "a unit makes it laden", () -> t.couple(0, 1));
            } else {
                Check.due("an empty one is not laden", t.couple(0, 1), 2);
            }
        }
    }

    /** A boat of the power 9 at 0 with a barge of so much cargo. */
    private static Towmaster laden(int cargo) {
        Towmaster t = withBoat(9, 0);
        t.contract(Towmaster.COAL, 0, 1, 99, 999, 100);
        t.barge(Towmaster.OPEN, 0, 0);
        if (cargo > 0) {
            t.load(0, 0, cargo);
        }
        t.couple(0, 0);
        t.pass(1);
        return t;
    }

    private static void weightAndDraughtOfABarge() {
        int[] draughts = {10, 10, 10, 11, 13, 15, 17, 19, 21, 23, 25, 27, 29};
        for (int cargo = 0; cargo <= 12; cargo++) {
            Towmaster t = laden(cargo);
            Check.due("weight with " + cargo, t.ofBoat(0, 6), 1 + cargo);
            Check.due("draught with " + cargo, t.ofBoat(0, 7), draughts[cargo]);
            t.go(0, 1);
            t.reach(0, 2, draughts[cargo] + 2, 1, false);
            Check.due("deep enough for " + cargo, t.bars(0), 0);
            t.stage(-1, 0);
            Check.due("too shallow for " + cargo, t.bars(0), Towmaster.SHALLOW);
            t.stage(0, 0);
            t.pass(1);
            t.stage(-2, 0);
            t.pass(1);
            Check.due("afloat with " + cargo, t.ofBoat(0, 9), 3);
            t.stage(-3, 0);
            t.pass(1);
            Check.due("aground with " + cargo, t.ofBoat(0, 10), Towmaster.AGROUND);
        }
    }

    private static void draughtIsTheGreatestOfAll() {
        Towmaster t = withBoat(9, 0);
        t.contract(Towmaster.COAL, 0, 1, 99, 999, 100);
        int[] cargoes = {3, 9, 6};
        int[] draughts = {11, 23, 23};
        int weight = 0;
        for (int k = 0; k < 3; k++) {
            t.barge(Towmaster.OPEN, 0, 0);
            t.load(k, 0, cargoes[k]);
            t.couple(0, k);
            t.pass(1);
            weight += 1 + cargoes[k];
            Check.due("draught of " + (k + 1), t.ofBoat(0, 7), draughts[k]);
            Check.due("weight of " + (k + 1), t.ofBoat(0, 6), weight);
        }
        t.drop(0, 1, 0);
        Check.due("without the deepest", t.ofBoat(0, 7), 17);
        Check.due("without the heaviest", t.ofBoat(0, 6), 11);
    }

    private static void aTowWithoutBarges() {
        Towmaster t = withBoat(1, 0);
        t.boat(1, 1, 1);
        t.fuel(1, 99);
        for (int places = 1; places <= 4; places++) {
            t.wide(0, places);
            Check.due("how many", t.ofBoat(0, 5), 0);
            Check.due("weight", t.ofBoat(0, 6), 0);
            Check.due("draught", t.ofBoat(0, 7), 10);
            Check.due("width", t.ofBoat(0, 8), 1);
        }
        t.go(0, 1);
        t.reach(0, 2, 12, 1, false);
        Check.due("12 is deep enough, 1 wide enough", t.bars(0), 0);
        t.stage(-1, 0);
        Check.due("11 is not", t.bars(0), Towmaster.SHALLOW);
        t.stage(0, 0);
        t.lock(0, 1, 1, false);
        Check.due("one hour in a lock", t.hours(0, 1), 1);
        t.reach(0, 2, 30, 2, false);
        t.pass(1);
        t.go(1, 0);
        Check.due("1 and 1 in a width of 2", t.bars(1), 0);
        Towmaster narrow = withBoat(1, 0);
        narrow.boat(1, 1, 1);
        narrow.fuel(1, 99);
        narrow.reach(0, 2, 30, 1, false);
        narrow.go(0, 1);
        narrow.pass(1);
        narrow.go(1, 0);
        Check.due("1 and 1 in a width of 1", narrow.bars(1), Towmaster.MEET);
    }

    private static void widthOfATow() {
        for (int places = 1; places <= 4; places++) {
            Towmaster t = withBoat(9, 0);
            t.wide(0, places);
            for (int count = 1; count <= 12; count++) {
                t.barge(Towmaster.OPEN, 0, 0);
                t.couple(0, count - 1);
                Check.due(count + " in rows of " + places, t.ofBoat(0, 8), count < places ? count : places);
            }
        }
    }

    private static void eachBargeLiesOutsideOfThoseAheadOfIt() {
        for (int tied = 1; tied <= 5; tied++) {
            Towmaster t = new Towmaster();
            t.bank(3, 0, tied);
            t.barge(Towmaster.OPEN, 3, 1);
            for (int k = 1; k <= tied; k++) {
                t.barge(Towmaster.OPEN, 3, 0);
            }
            for (int k = 1; k <= tied; k++) {
                Check.due("place of " + k, t.ofBarge(k, 5), k - 1);
                Check.due("outside of " + k + " of " + tied, t.ofBarge(k, 6), tied - k);
                Check.due("shifts for " + k, t.shifts(3, 1 << k), tied - k);
                Check.due("shifts anew for " + k, t.shiftsAnew(3, 1 << k), tied - k);
            }
            Check.due("the other tier", t.ofBarge(0, 6), 0);
        }
    }

    private static void coupleShiftsThoseOutside() {
        for (int barge = 0; barge < 5; barge++) {
            Towmaster t = withBoat(9, 6);
            t.bank(6, 1, 5);
            for (int k = 0; k < 5; k++) {
                t.barge(Towmaster.OPEN, 6, 1);
            }
            t.couple(0, barge);
            Check.due("work to couple " + barge, t.ofBoat(0, 4), 2 + (4 - barge));
            Check.due("cost of shifting", t.all(3), 3 * (4 - barge));
            for (int k = 0; k < 5; k++) {
                int place = k == barge ? 0 : k < barge ? k : k - 1;
                Check.due("place of " + k + " without " + barge, t.ofBarge(k, 5), place);
                Check.due("where " + k + " is", t.ofBarge(k, 0), k == barge ? 16 : 6);
            }
        }
    }

    private static void dropMovesUpThoseBehind() {
        for (int place = 0; place < 12; place++) {
            Towmaster t = withBoat(9, 6);
            for (int k = 0; k < 12; k++) {
                t.barge(Towmaster.OPEN, 6, 1);
                t.couple(0, k);
            }
            Check.due("work to couple", t.ofBoat(0, 4), 24);
            t.drop(0, place, 0);
            Check.due("work to drop " + place, t.ofBoat(0, 4), 24 + 1 + (11 - place));
            Check.due("no shifting", t.all(3), 0);
            for (int k = 0; k < 12; k++) {
                Check.due("place of " + k, t.ofBarge(k, 5), k == place ? 0 : k < place ? k : k - 1);
            }
        }
    }

    /** So many barges in rows of n: empty open ones, but for a laden TANK and a laden COVERED one at two places. */
    private static Towmaster tied(int n, int count, int tank, int covered) {
        Towmaster t = withBoat(9, 0);
        t.wide(0, n);
        t.contract(Towmaster.OIL, 0, 1, 1, 9, 100);
        t.contract(Towmaster.GRAIN, 0, 1, 1, 9, 100);
        for (int k = 0; k < count; k++) {
            t.barge(k == tank ? Towmaster.TANK : k == covered ? Towmaster.COVERED : Towmaster.OPEN, 0, 0);
            if (k == tank || k == covered) {
                t.load(k, k == tank ? 0 : 1, 1);
            }
            if (k < count - 1) {
                t.couple(0, k);
            }
        }
        return t;
    }

    /** By the document's words: row k / n, column k modulo n. */
    private static boolean isSideBySide(int n, int one, int other) {
        int rows = Math.abs(one / n - other / n);
        int columns = Math.abs(one % n - other % n);
        return rows == 0 && columns == 1 || columns == 0 && rows == 1;
    }

    private static void coupleSideBySide() {
        for (int n = 1; n <= 4; n++) {
            for (int last = 1; last < 12; last++) {
                for (int first = 0; first < last; first++) {
                    coupleSideBySide(n, first, last, true);
                    coupleSideBySide(n, first, last, false);
                }
            }
        }
    }

    private static void coupleSideBySide(int n, int first, int last, boolean isTankFirst) {
        Towmaster t = tied(n, last + 1, isTankFirst ? first : last, isTankFirst ? last : first);
        String what = "couple at " + last + ", against " + first + " in rows of " + n;
        if (isSideBySide(n, first, last)) {
            Check.notNow(t, what, () -> t.couple(0, last));
        } else {
            Check.due(what, t.couple(0, last), last + 1);
        }
    }

    private static void dropSideBySide() {
        int count = 9;
        for (int n = 1; n <= 4; n++) {
            for (int last = 1; last < count; last++) {
                for (int first = 0; first < last; first++) {
                    for (int dropped = 0; dropped < count && !isSideBySide(n, first, last); dropped++) {
                        dropSideBySide(n, count, first, last, dropped);
                    }
                }
            }
        }
    }

    private static void dropSideBySide(int n, int count, int first, int last, int dropped) {
        boolean isTankFirst = (first + last + dropped) % 2 == 0;
        Towmaster t = tied(n, count, isTankFirst ? first : last, isTankFirst ? last : first);
        t.couple(0, count - 1);
        boolean bothStay = dropped != first && dropped != last;
        int firstThen = dropped < first ? first - 1 : first;
        int lastThen = dropped < last ? last - 1 : last;
        String what = "drop " + dropped + " with " + first + " and " + last + " in rows of " + n;
        if (bothStay && isSideBySide(n, firstThen, lastThen)) {
            Check.notNow(t, what, () -> t.drop(0, dropped, 1));
        } else {
            Check.due(what, t.drop(0, dropped, 1), count - 1);
        }
    }

    private static void pushIsLessByTheTenthOfTheStage() {
        for (int power = 1; power <= 9; power++) {
            Towmaster t = withBoat(power, 0);
            for (int stage = -30; stage <= 60; stage++) {
                t.stage(stage, 0);
                int tenths = stage < 10 ? 0 : stage < 20 ? 1 : stage < 30 ? 2 : stage < 40 ? 3 : stage < 50 ? 4
                        : stage < 60 ? 5 : 6;
                Check.due("up, power " + power + ", stage " + stage, t.most(0, true), power * (8 - tenths));
                Check.due("down, power " + power + ", stage " + stage, t.most(0, false), power * (12 - tenths));
            }
        }
    }

    private static void aGoalAtWhichABoatStands() {
        for (int point = 0; point < 8; point++) {
            Towmaster t = withBoat(1, point);
            Check.due("where it stands", t.go(0, point), Towmaster.NONE);
            Check.due("no goal", t.ofBoat(0, 2), Towmaster.NONE);
            Check.due("so nothing bars it", t.bars(0), Towmaster.NONE);
            int other = point == 0 ? 1 : point - 1;
            t.go(0, other);
            Check.due("the goal before", t.go(0, point), other);
            Check.due("no goal any more", t.ofBoat(0, 2), Towmaster.NONE);
            t.pass(1);
            Check.due("it stays", t.ofBoat(0, 0), point);
            Check.due("it does not wait", t.all(6), 0);
        }
        Towmaster t = withBoat(1, 3);
        t.go(0, 5);
        t.pass(1);
        t.go(0, 3);
        Check.due("one that goes stands nowhere: it may turn back", t.ofBoat(0, 2), 3);
        t.go(0, 4);
        t.pass(4);
        Check.due("it comes to its goal", t.ofBoat(0, 0), 4);
        Check.due("and has none any more", t.ofBoat(0, 2), Towmaster.NONE);
    }

    private static void agreementIsOverAtAPoint() {
        for (int teller = 0; teller < 2; teller++) {
            Towmaster t = withBoat(1, 0);
            t.boat(1, 1, 7);
            t.go(0, 1);
            t.pass(1);
            t.radio(teller, 1 - teller, true);
            t.pass(3);
            Check.due("agreed up to its last hour", t.radio(0, 1, true), true);
            t.pass(1);
            Check.due("over as it comes to a point", t.radio(1, 0, false), false);
            t.radio(teller, 1 - teller, true);
            t.pass(48);
            Check.due("who stands does not come to a point", t.radio(1, 0, true), true);
            t.go(0, 2);
            t.pass(4);
            Check.due("who leaves does not either", t.radio(1, 0, true), true);
        }
    }
}
