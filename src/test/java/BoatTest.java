/** Promises 15 to 21, 24, 25, 27 and 30 to 32: boats, fuel, tows, shifting, radio, goals. */
public final class BoatTest {
    public static void main(String[] args) {
        promise15Boat();
        promise16Fuel();
        promise17Wide();
        promise18Couple();
        promise18CoupleMost();
        promise18CoupleDangerous();
        promise19Drop();
        promise19DropDangerous();
        promise20Radio();
        promise21Go();
        promise24Most();
        promise25Hours();
        promise25HoursBarred();
        promise27OfBoat();
        promise30PlaceAnew();
        promise31Shifts();
        promise32ShiftsAnew();
        Check.end("BoatTest");
    }

    private static void promise15Boat() {
        Towmaster t = new Towmaster();
        Check.noSuch(t, "point 8", () -> t.boat(0, 0, 8));
        Check.noSuch(t, "point -1", () -> t.boat(1, 1, -1));
        Check.notAllowed(t, "power 0", () -> t.boat(0, 1, 0));
        Check.notAllowed(t, "power 10", () -> t.boat(10, 1, 0));
        Check.notAllowed(t, "hands 0", () -> t.boat(1, 0, 0));
        Check.notAllowed(t, "hands 5", () -> t.boat(1, 5, 0));
        for (int k = 0; k < 6; k++) {
            Check.due("boat", t.boat(k + 1, k % 4 + 1, k), k);
            Check.due("it stands at", t.ofBoat(k, 0), k);
        }
        Check.notNow(t, "7 boats", () -> t.boat(1, 1, 0));
        Check.notAllowed(t, "the range comes first", () -> t.boat(10, 1, 0));
    }

    private static void promise16Fuel() {
        Towmaster t = new Towmaster();
        t.boat(1, 1, 0);
        Check.due("fuel", t.fuel(0, 1), 1);
        Check.due("fuel", t.fuel(0, 997), 998);
        Check.notNow(t, "1000", () -> t.fuel(0, 2));
        Check.due("999", t.fuel(0, 1), 999);
        Check.due("cost", t.all(5), 999);
        Check.notAllowed(t, "0 units", () -> t.fuel(0, 0));
        Check.notAllowed(t, "1000 units", () -> t.fuel(0, 1000));
        Check.noSuch(t, "boat 1", () -> t.fuel(1, 0));
        Check.noSuch(t, "boat -1", () -> t.fuel(-1, 1));
        t.go(0, 1);
        t.pass(1);
        Check.due("used", t.ofBoat(0, 3), 995);
        Check.notNow(t, "it goes in a section", () -> t.fuel(0, 1));
        t.pass(4);
        Check.due("at a point again", t.fuel(0, 4), 999);
        Check.due("cost of both", t.all(5), 1003);
    }

    private static void promise17Wide() {
        Towmaster t = new Towmaster();
        t.boat(9, 1, 0);
        Check.due("wide", t.wide(0, 4), 2);
        Check.due("wide", t.wide(0, 1), 4);
        Check.notAllowed(t, "0 places", () -> t.wide(0, 0));
        Check.notAllowed(t, "5 places", () -> t.wide(0, 5));
        Check.noSuch(t, "boat 1", () -> t.wide(1, 5));
        Check.noSuch(t, "boat -1", () -> t.wide(-1, 1));
        for (int k = 0; k < 3; k++) {
            t.barge(Towmaster.OPEN, 0, 0);
        }
        Check.due("width without barges", t.ofBoat(0, 8), 1);
        t.couple(0, 2);
        Check.notNow(t, "it has barges", () -> t.wide(0, 1));
        Check.notAllowed(t, "the range comes first", () -> t.wide(0, 5));
        t.couple(0, 1);
        Check.due("rows of one", t.ofBoat(0, 8), 1);
        t.drop(0, 1, 0);
        t.drop(0, 2, 0);
        t.wide(0, 4);
        t.couple(0, 2);
        t.couple(0, 1);
        t.couple(0, 0);
        Check.due("fewer barges than places", t.ofBoat(0, 8), 3);
        t.drop(0, 0, 0);
        t.drop(0, 1, 0);
        t.drop(0, 2, 0);
        t.fuel(0, 99);
        t.go(0, 1);
        t.pass(10);
        t.pass(1);
        Check.due("in a section too", t.wide(0, 3), 4);
    }

    private static void promise18Couple() {
        Towmaster t = new Towmaster();
        t.boat(9, 4, 0);
        t.boat(9, 4, 0);
        for (int k = 0; k < 3; k++) {
            t.barge(Towmaster.OPEN, 0, 0);
        }
        t.barge(Towmaster.OPEN, 1, 0);
        Check.noSuch(t, "boat 2", () -> t.couple(2, 0));
        Check.noSuch(t, "boat -1", () -> t.couple(-1, 0));
        Check.noSuch(t, "barge 4", () -> t.couple(0, 4));
        Check.noSuch(t, "barge -1", () -> t.couple(0, -1));
        Check.notNow(t, "tied elsewhere", () -> t.couple(0, 3));
        Check.due("couple", t.couple(0, 0), 1);
        Check.due("two lay outside", t.ofBoat(0, 4), 4);
        Check.due("cost", t.all(3), 6);
        Check.due("these stay", t.ofBarge(1, 5), 0);
        Check.due("these stay", t.ofBarge(2, 5), 1);
        Check.notNow(t, "in its tow", () -> t.couple(0, 0));
        Check.notNow(t, "in another tow", () -> t.couple(1, 0));
        Check.due("couple", t.couple(0, 2), 2);
        Check.due("none lay outside", t.ofBoat(0, 4), 6);
        Check.due("cost as before", t.all(3), 6);
        Check.due("at the end of the tow", t.ofBarge(2, 5), 1);
        t.fuel(1, 999);
        t.go(1, 1);
        t.pass(1);
        Check.notNow(t, "it goes in a section", () -> t.couple(1, 1));
    }

    private static void promise18CoupleMost() {
        Towmaster t = new Towmaster();
        t.boat(9, 4, 0);
        for (int k = 0; k < 13; k++) {
            t.barge(Towmaster.OPEN, 0, 0);
            if (k < 12) {
                Check.due("couple", t.couple(0, k), k + 1);
            }
        }
        Check.notNow(t, "13 in a tow", () -> t.couple(0, 12));
        t.drop(0, 5, 0);
        Check.due("12 again", t.couple(0, 12), 12);
    }

    /** A boat at 0 with the barges 0, 1, .. in tiers, a letter each: T and C laden, o and t and c empty, O laden coal. */
    private static Towmaster laid(String barges, int places) {
        Towmaster t = new Towmaster();
        t.boat(9, 4, 0);
        t.wide(0, places);
        t.bank(0, 0, 5);
        t.bank(0, 1, 5);
        int coal = t.contract(Towmaster.COAL, 0, 1, 99, 99, 100);
        int oil = t.contract(Towmaster.OIL, 0, 1, 99, 99, 100);
        for (int k = 0; k < barges.length(); k++) {
            char sign = barges.charAt(k);
            boolean isTank = sign == 'T' || sign == 't';
            boolean isOpen = sign == 'O' || sign == 'o';
            int type = isTank ? Towmaster.TANK : isOpen ? Towmaster.OPEN : Towmaster.COVERED;
            t.barge(type, 0, k / 5);
            if (sign < 'a') {
                t.load(k, isTank ? oil : coal, 1);
            }
        }
        return t;
    }

    /** Couples all of these in their order, and says of how many that went well. */
    private static void couples(String barges, int places, int due) {
        Towmaster t = laid(barges, places);
        for (int k = 0; k < due; k++) {
            Check.due("couple " + barges.charAt(k) + " of " + barges, t.couple(0, k), k + 1);
        }
        if (due < barges.length()) {
            Check.notNow(t, "couple after " + due + " of " + barges + " in " + places, () -> t.couple(0, due));
        }
    }

    private static void promise18CoupleDangerous() {
        couples("TC", 2, 1);
        couples("CT", 2, 1);
        couples("TT", 2, 2);
        couples("CC", 2, 2);
        couples("TcT", 2, 3);
        couples("tC", 2, 2);
        couples("TO", 2, 2);
        couples("TC", 1, 1);
        couples("ToC", 1, 3);
        couples("ToC", 2, 2);
        couples("TooC", 2, 4);
        couples("oTCo", 2, 4);
        couples("oTCo", 3, 2);
        couples("ooTC", 3, 4);
        couples("CooT", 3, 3);
        couples("CooT", 4, 4);
        couples("CoooT", 4, 4);
        couples("ToooooC", 4, 7);
    }

    private static void promise19Drop() {
        Towmaster t = laid("oooo", 2);
        for (int barge = 3; barge >= 0; barge--) {
            t.couple(0, barge);
        }
        t.boat(9, 1, 0);
        int work = t.ofBoat(0, 4);
        Check.due("work of coupling", work, 8);
        Check.noSuch(t, "boat 2", () -> t.drop(2, 0, 0));
        Check.noSuch(t, "boat -1", () -> t.drop(-1, 0, 0));
        Check.noSuch(t, "barge 4", () -> t.drop(0, 4, 0));
        Check.noSuch(t, "barge -1", () -> t.drop(0, -1, 0));
        Check.noSuch(t, "tier 2", () -> t.drop(0, 0, 2));
        Check.noSuch(t, "tier -1", () -> t.drop(1, 0, -1));
        Check.notNow(t, "not in its tow", () -> t.drop(1, 0, 0));
        Check.due("drop the second one", t.drop(0, 2, 1), 3);
        Check.due("two were behind it", t.ofBoat(0, 4), work + 3);
        Check.due("they move up", t.ofBarge(1, 5), 1);
        Check.due("they move up", t.ofBarge(0, 5), 2);
        Check.due("no shifting", t.all(3), 0);
        Check.notNow(t, "tied, not in a tow", () -> t.drop(0, 2, 1));
        t.bank(0, 1, 1);
        Check.notNow(t, "no room", () -> t.drop(0, 0, 1));
        Check.due("drop the last one", t.drop(0, 0, 0), 2);
        Check.due("none was behind it", t.ofBoat(0, 4), work + 4);
        t.barge(Towmaster.OPEN, 0, 0);
        t.bank(0, 1, 2);
        Check.due("drop", t.drop(0, 3, 0), 1);
        Check.due("as the outermost", t.ofBarge(3, 5), 2);
        Check.due("its tier", t.ofBarge(3, 4), 0);
        t.fuel(0, 999);
        t.go(0, 1);
        t.pass(5);
        Check.due("under way", t.ofBoat(0, 1), 0);
        Check.notNow(t, "it goes in a section", () -> t.drop(0, 1, 1));
    }

    private static void promise19DropDangerous() {
        Towmaster one = laid("ToC", 1);
        coupleAll(one, 3);
        Check.notNow(one, "T and C would lie side by side", () -> one.drop(0, 1, 0));
        one.drop(0, 0, 0);
        Check.due("C behind o", one.drop(0, 1, 0), 1);

        Towmaster two = laid("TooCo", 2);
        coupleAll(two, 5);
        Check.notNow(two, "T and C in one column", () -> two.drop(0, 1, 1));
        Check.notNow(two, "T and C in one column", () -> two.drop(0, 2, 1));
        Check.due("behind both", two.drop(0, 4, 1), 4);
        Check.due("without T", two.drop(0, 0, 1), 3);

        Towmaster three = laid("oTCo", 2);
        coupleAll(three, 4);
        Check.notNow(three, "T and C in one row", () -> three.drop(0, 0, 1));
        Check.due("behind both", three.drop(0, 3, 1), 3);
        Check.due("C itself", three.drop(0, 2, 1), 2);
    }

    private static void coupleAll(Towmaster t, int count) {
        for (int k = 0; k < count; k++) {
            t.couple(0, k);
        }
    }

    private static void promise20Radio() {
        Towmaster t = new Towmaster();
        for (int k = 0; k < 3; k++) {
            t.boat(1, 1, k);
        }
        Check.due("radio", t.radio(0, 1, true), false);
        Check.due("of both", t.radio(1, 0, true), true);
        Check.due("of others", t.radio(0, 2, false), false);
        Check.due("over", t.radio(0, 1, false), true);
        Check.due("over", t.radio(1, 0, true), false);
        Check.notAllowed(t, "the same", () -> t.radio(2, 2, true));
        Check.noSuch(t, "boat 3", () -> t.radio(3, 3, true));
        Check.noSuch(t, "boat 3", () -> t.radio(0, 3, true));
        Check.noSuch(t, "boat -1", () -> t.radio(-1, 0, true));
        Check.noSuch(t, "boat -1", () -> t.radio(0, -1, true));
        t.radio(1, 2, true);
        t.radio(0, 2, true);
        t.fuel(0, 99);
        t.go(0, 1);
        t.pass(4);
        Check.due("not there yet", t.ofBoat(0, 9), 1);
        Check.due("agreed still", t.radio(1, 0, true), true);
        t.pass(1);
        Check.due("over as it comes to a point", t.radio(0, 1, false), false);
        Check.due("over for the other one", t.radio(1, 0, true), false);
        Check.due("over with the third one too", t.radio(2, 0, true), false);
        Check.due("others agree still", t.radio(2, 1, true), true);
        t.radio(0, 2, true);
        t.radio(0, 1, true);
        t.fuel(2, 99);
        t.go(2, 1);
        t.pass(3);
        Check.due("over with those of lower numbers", t.radio(0, 2, false), false);
        Check.due("over with those of lower numbers", t.radio(1, 2, false), false);
        Check.due("others agree still", t.radio(1, 0, false), true);
    }

    private static void promise21Go() {
        Towmaster t = new Towmaster();
        t.boat(1, 1, 3);
        Check.due("go", t.go(0, 7), Towmaster.NONE);
        Check.due("go", t.go(0, 4), 7);
        Check.due("goal", t.ofBoat(0, 2), 4);
        Check.due("where it stands", t.go(0, 3), 4);
        Check.due("no goal", t.ofBoat(0, 2), Towmaster.NONE);
        Check.noSuch(t, "boat 1", () -> t.go(1, 0));
        Check.noSuch(t, "boat -1", () -> t.go(-1, 0));
        Check.noSuch(t, "point 8", () -> t.go(0, 8));
        Check.noSuch(t, "point -1", () -> t.go(0, -1));
        t.fuel(0, 99);
        t.go(0, 4);
        t.pass(1);
        Check.due("back, in a section", t.go(0, 3), 4);
        Check.due("goal, in a section", t.ofBoat(0, 2), 3);
        t.pass(4);
        Check.due("it comes to 4, and goes back at once", t.ofBoat(0, 1), 3);
        Check.due("down", t.ofBoat(0, 9), 2);
        t.pass(2);
        Check.due("there", t.ofBoat(0, 0), 3);
        Check.due("no goal any more", t.ofBoat(0, 2), Towmaster.NONE);
    }

    private static void promise24Most() {
        Towmaster t = new Towmaster();
        t.boat(5, 1, 0);
        Check.due("up", t.most(0, true), 40);
        Check.due("down", t.most(0, false), 60);
        t.stage(9, 0);
        Check.due("less than ten", t.most(0, true), 40);
        t.stage(29, 0);
        Check.due("two tenths", t.most(0, true), 30);
        Check.due("two tenths, down", t.most(0, false), 50);
        t.stage(60, 0);
        Check.due("the highest", t.most(0, true), 10);
        t.stage(-30, 0);
        Check.due("below 0", t.most(0, true), 40);
        Check.due("below 0, down", t.most(0, false), 60);
        Check.noSuch(t, "boat 1", () -> t.most(1, true));
        Check.noSuch(t, "boat -1", () -> t.most(-1, true));
    }

    private static void promise25Hours() {
        Towmaster t = new Towmaster();
        t.boat(1, 1, 3);
        t.reach(1, 5, 30, 3, false);
        t.weather(2, 0, true);
        Check.due("where it stands", t.hours(0, 3), 0);
        Check.due("down, shut or not", t.hours(0, 1), 7);
        Check.due("down", t.hours(0, 0), 9);
        Check.due("up", t.hours(0, 5), 8);
        t.fuel(0, 99);
        t.go(0, 5);
        t.pass(2);
        Check.due("3 are left, to the next point", t.hours(0, 4), 3);
        Check.due("and on", t.hours(0, 5), 7);
        Check.due("and back", t.hours(0, 2), 7);
        t.go(0, 3);
        t.pass(4);
        Check.due("going down", t.ofBoat(0, 1), 3);
        Check.due("down, 1 is left", t.hours(0, 3), 1);
        Check.due("down, and back", t.hours(0, 4), 5);
        Check.noSuch(t, "boat 1", () -> t.hours(1, 0));
        Check.noSuch(t, "boat -1", () -> t.hours(-1, 0));
        Check.noSuch(t, "point 8", () -> t.hours(0, 8));
        Check.noSuch(t, "point -1", () -> t.hours(0, -1));
    }

    private static void promise25HoursBarred() {
        Towmaster t = new Towmaster();
        t.boat(1, 1, 0);
        t.reach(2, 2, 11, 3, false);
        Check.due("as far as it is deep", t.hours(0, 2), 8);
        Check.due("shallow", t.hours(0, 3), Towmaster.NONE);
        t.stage(1, 0);
        Check.due("not shallow", t.hours(0, 3), 12);
        t.weather(0, 1, false);
        Check.due("weak in ice", t.hours(0, 1), Towmaster.NONE);
        t.boat(2, 1, 0);
        Check.due("strong enough", t.hours(1, 1), 5);
        t.weather(0, 0, false);
        t.barge(Towmaster.OPEN, 0, 0);
        t.barge(Towmaster.OPEN, 0, 0);
        t.couple(0, 0);
        t.couple(0, 1);
        t.reach(0, 1, 30, 1, false);
        Check.due("wide", t.hours(0, 1), Towmaster.NONE);
        t.reach(0, 1, 30, 2, false);
        Check.due("work and fuel do not count", t.hours(0, 1), 2);
        t.fuel(0, 99);
        t.go(0, 1);
        t.pass(5);
        t.reach(1, 1, 30, 1, false);
        t.weather(0, 3, false);
        Check.due("its own section does not bar it any more", t.hours(0, 1), 2);
        Check.due("the next one does", t.hours(0, 2), Towmaster.NONE);
        t.stage(-30, 0);
        Check.due("aground or not", t.hours(0, 1), 2);
        Check.due("one would bar it on its way back", t.hours(0, 0), Towmaster.NONE);
    }

    private static void promise27OfBoat() {
        Towmaster t = new Towmaster();
        t.boat(3, 2, 6);
        boat(t, 6, -1, -1, 0, 0, 0, 0, 10, 1, 0, 0);
        t.contract(Towmaster.COAL, 6, 5, 99, 99, 100);
        t.barge(Towmaster.OPEN, 6, 0);
        t.barge(Towmaster.COVERED, 6, 0);
        t.load(1, 0, 9);
        t.couple(0, 0);
        boat(t, 6, -1, -1, 0, 3, 1, 1, 10, 1, 0, 0);
        t.couple(0, 1);
        t.fuel(0, 50);
        t.go(0, 4);
        boat(t, 6, -1, 4, 50, 5, 2, 11, 23, 2, 0, 0);
        t.pass(1);
        boat(t, 6, -1, 4, 50, 3, 2, 11, 23, 2, 0, Towmaster.WORK);
        t.pass(1);
        boat(t, 6, -1, 4, 50, 1, 2, 11, 23, 2, 0, Towmaster.WORK);
        t.pass(1);
        boat(t, -1, 5, 4, 44, 0, 2, 11, 23, 2, 2, 0);
        t.pass(4);
        boat(t, 4, -1, -1, 38, 0, 2, 11, 23, 2, 0, 0);
        Check.noSuch(t, "boat 1", () -> t.ofBoat(1, 0));
        Check.noSuch(t, "boat -1", () -> t.ofBoat(-1, 0));
        Check.noSuch(t, "what 11", () -> t.ofBoat(0, 11));
        Check.noSuch(t, "what -1", () -> t.ofBoat(0, -1));
    }

    private static void boat(Towmaster t, int... due) {
        for (int what = 0; what < due.length; what++) {
            Check.due("boat, what " + what + " in the hour " + t.all(0), t.ofBoat(0, what), due[what]);
        }
    }

    private static void promise30PlaceAnew() {
        Towmaster t = new Towmaster();
        t.boat(4, 4, 3);
        t.boat(4, 4, 3);
        t.fuel(0, 999);
        t.fuel(1, 999);
        t.barge(Towmaster.OPEN, 3, 1);
        t.barge(Towmaster.OPEN, 2, 1);
        place(t, 3, 2);
        t.couple(0, 0);
        place(t, 13, 2);
        t.go(0, 2);
        t.go(1, 5);
        t.pass(1);
        place(t, 22, 2);
        t.pass(2);
        place(t, 12, 2);
        t.couple(0, 1);
        place(t, 12, 12);
        t.drop(0, 0, 0);
        place(t, 2, 12);
        t.go(0, 5);
        t.pass(1);
        t.pass(4);
        place(t, 2, 23);
        t.pass(8);
        place(t, 2, 15);
        t.drop(0, 1, 1);
        t.couple(1, 1);
        t.go(1, 4);
        t.pass(1);
        place(t, 2, 24);
        for (int k = 0; k < 60; k++) {
            t.go(0, k % 2 == 0 ? 7 : 0);
            t.pass(k % 7 + 1);
            Check.due("a long story", t.placeAnew(1), t.ofBarge(1, 0));
            if (t.ofBoat(0, 0) != Towmaster.NONE && t.ofBoat(0, 3) < 500) {
                t.fuel(0, 499);
            }
        }
        t.go(1, 3);
        t.pass(48);
        place(t, 2, 13);
        Check.noSuch(t, "barge 2", () -> t.placeAnew(2));
        Check.noSuch(t, "barge -1", () -> t.placeAnew(-1));
    }

    private static void place(Towmaster t, int... due) {
        for (int barge = 0; barge < due.length; barge++) {
            Check.due("barge " + barge + " anew in the hour " + t.all(0), t.placeAnew(barge), due[barge]);
            Check.due("barge " + barge + " in the hour " + t.all(0), t.ofBarge(barge, 0), due[barge]);
        }
    }

    /** The barges 0 to 4 in one tier and 5 to 7 in the other one of the point 2; 8 elsewhere, 9 in a tow. */
    private static Towmaster tiers() {
        Towmaster t = new Towmaster();
        t.bank(2, 0, 5);
        for (int k = 0; k < 8; k++) {
            t.barge(Towmaster.OPEN, 2, k / 5);
        }
        t.barge(Towmaster.OPEN, 3, 0);
        t.barge(Towmaster.OPEN, 1, 0);
        t.boat(1, 1, 1);
        t.couple(0, 9);
        return t;
    }

    private static int set(int... barges) {
        int set = 0;
        for (int barge : barges) {
            set |= 1 << barge;
        }
        return set;
    }

    private static void promise31Shifts() {
        Towmaster t = tiers();
        Check.due("none", t.shifts(2, 0), 0);
        Check.due("the innermost one", t.shifts(2, set(0)), 4);
        Check.due("the outermost one", t.shifts(2, set(4)), 0);
        Check.due("two with one between", t.shifts(2, set(0, 2)), 3 + 2);
        Check.due("the inner three", t.shifts(2, set(0, 1, 2)), 6);
        Check.due("both tiers", t.shifts(2, set(0, 1, 2, 3, 5, 6)), 4 + 2);
        Check.due("a whole tier", t.shifts(2, set(0, 1, 2, 3, 4)), 0);
        wrongSets(t, false);
    }

    private static void promise32ShiftsAnew() {
        Towmaster t = tiers();
        for (int set = 0; set < 256; set++) {
            if (Integer.bitCount(set) <= 6) {
                Check.due("shifts anew of " + set, t.shiftsAnew(2, set), t.shifts(2, set));
            }
        }
        Check.due("both tiers", t.shiftsAnew(2, set(0, 1, 2, 3, 5, 6)), 4 + 2);
        Check.due("two with one between", t.shiftsAnew(2, set(0, 2)), 3 + 2);
        wrongSets(t, true);
    }

    private static void wrongSets(Towmaster t, boolean isAnew) {
        Check.noSuch(t, "point 8", () -> ask(t, isAnew, 8, -1));
        Check.noSuch(t, "point -1", () -> ask(t, isAnew, -1, 0));
        Check.notAllowed(t, "below 0", () -> ask(t, isAnew, 2, -1));
        Check.notAllowed(t, "the lowest", () -> ask(t, isAnew, 2, Integer.MIN_VALUE));
        Check.notAllowed(t, "more than 6", () -> ask(t, isAnew, 2, 127));
        Check.notAllowed(t, "tied elsewhere", () -> ask(t, isAnew, 2, set(1, 8)));
        Check.notAllowed(t, "in a tow", () -> ask(t, isAnew, 1, set(9)));
        Check.notAllowed(t, "there is none", () -> ask(t, isAnew, 2, set(10)));
        Check.notAllowed(t, "there never is one", () -> ask(t, isAnew, 2, set(30)));
        Check.due("none, where none is tied", isAnew ? t.shiftsAnew(7, 0) : t.shifts(7, 0), 0);
    }

    private static void ask(Towmaster t, boolean isAnew, int point, int set) {
        if (isAnew) {
            t.shiftsAnew(point, set);
        } else {
            t.shifts(point, set);
        }
    }
}
