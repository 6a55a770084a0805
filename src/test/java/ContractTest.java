import java.util.List;

/** The sentences of 'Contracts', on both sides of each boundary that they name: kinds, hours, what a unit pays. */
public final class ContractTest {
    public static void main(String[] args) {
        kindsGoInTypes();
        usedForNoOtherKind();
        twelveUnitsInAnHour();
        divisionsAreRoundedDown();
        forEachSection();
        fiveMoreForEachDiversion();
        oneLessForEachHourThatItIsLater();
        eachUnitPays();
        unitsOfManyBarges();
        cleaningCosts20();
        Check.end("ContractTest");
    }

    private static void kindsGoInTypes() {
        String[] goes = {"COAL OPEN", "COAL COVERED", "GRAIN COVERED", "OIL TANK"};
        String[] kinds = {"COAL", "GRAIN", "OIL"};
        String[] types = {"OPEN", "COVERED", "TANK"};
        for (int kind = 0; kind < 3; kind++) {
            for (int type = 0; type < 3; type++) {
                String what = kinds[kind] + " " + types[type];
                Towmaster t = new Towmaster();
                t.contract(kind, 3, 4, 1, 0, 0);
                t.barge(type, 3, 0);
                if (List.of(goes).contains(what)) {
                    Check.due(what, t.load(0, 0, 1), 1);
                    Check.due(what + " used for", t.ofBarge(0, 3), kind);
                } else {
                    Check.notNow(t, what, () -> t.load(0, 0, 1));
                    Check.due(what + " used for", t.ofBarge(0, 3), Towmaster.NONE);
                }
            }
        }
    }

    private static void usedForNoOtherKind() {
        Towmaster t = new Towmaster();
        t.contract(Towmaster.GRAIN, 0, 1, 9, 99, 100);
        t.contract(Towmaster.COAL, 1, 0, 9, 99, 100);
        t.contract(Towmaster.GRAIN, 1, 0, 9, 99, 100);
        t.barge(Towmaster.COVERED, 0, 0);
        t.load(0, 0, 1);
        bring(t, 0, 1);
        t.unload(0);
        Check.due("used for grain still", t.ofBarge(0, 3), Towmaster.GRAIN);
        Check.notNow(t, "coal", () -> t.load(0, 1, 1));
        Check.due("kind", t.clean(0), Towmaster.GRAIN);
        Check.due("coal, once it is cleaned", t.load(0, 1, 1), 1);
        Check.notNow(t, "grain on coal", () -> t.load(0, 2, 1));
    }

    private static void twelveUnitsInAnHour() {
        Towmaster t = new Towmaster();
        for (int point = 0; point < 8; point++) {
            t.contract(Towmaster.COAL, point, 7 - point, 99, 99, 100);
            t.barge(Towmaster.OPEN, point, 0);
            t.barge(Towmaster.OPEN, point, 1);
        }
        for (int hour = 0; hour < 2; hour++) {
            for (int contract = 0; contract < 8; contract++) {
                int barge = 2 * contract;
                int of = contract;
                t.load(barge, of, 6);
                Check.notNow(t, "13 at the point " + contract, () -> t.load(barge + 1, of, 7));
                Check.due("12 at the point " + contract, t.load(barge + 1, of, 6), 6 * (hour + 1));
            }
            t.pass(1);
        }
    }

    /** What units pay that go from one point to another, diverted so often, and unloaded so many hours late. */
    private static int pay(int from, int to, int units, int rate, int diversions, int late) {
        Towmaster t = new Towmaster();
        for (int section = 0; section < 7; section++) {
            t.reach(section, 1, 60, 4, false);
        }
        int arrival = 1 + (to > from ? 2 * (to - from) : from - to);
        t.contract(Towmaster.OIL, from, to, 99, arrival + 1 - late, rate);
        int other = from != 3 && to != 3 ? 3 : from != 4 && to != 4 ? 4 : 5;
        for (int k = 0; k < diversions; k++) {
            t.divert(0, k % 2 == 0 ? other : to);
        }
        t.barge(Towmaster.TANK, from, 1);
        t.load(0, 0, units);
        bring(t, 0, to);
        t.pass(arrival + 1 - t.all(0));
        int before = t.all(2);
        int pay = t.unload(0);
        Check.due("paid by the contract", t.ofContract(0, 3), pay);
        Check.due("paid by all", t.all(2), before + pay);
        return pay;
    }

    /** With a boat that is brought for it; the barge is dropped as the hour begins in which it comes there. */
    private static void bring(Towmaster t, int barge, int to) {
        int boat = t.boat(9, 4, t.ofBarge(barge, 0));
        t.fuel(boat, 999);
        t.couple(boat, barge);
        t.go(boat, to);
        while (t.ofBoat(boat, 0) != to) {
            t.pass(1);
        }
        t.drop(boat, barge, 1);
    }

    private static void divisionsAreRoundedDown() {
        int[] rates = {0, 1, 9, 10, 11, 99, 100, 101, 109, 110, 299, 300};
        int[] ofOne = {0, 0, 0, 1, 1, 9, 10, 10, 10, 11, 29, 30};
        int[] ofThree = {0, 0, 2, 3, 3, 29, 30, 30, 32, 33, 89, 90};
        int[] ofSeven = {0, 0, 6, 7, 7, 69, 70, 70, 76, 77, 209, 210};
        for (int k = 0; k < rates.length; k++) {
            Check.due("one section at " + rates[k], pay(0, 1, 1, rates[k], 0, 0), ofOne[k]);
            Check.due("three sections at " + rates[k], pay(2, 5, 1, rates[k], 0, 0), ofThree[k]);
            Check.due("seven sections at " + rates[k], pay(0, 7, 1, rates[k], 0, 0), ofSeven[k]);
            Check.due("each of ten units at " + rates[k], pay(1, 0, 10, rates[k], 0, 0), 10 * ofOne[k]);
        }
    }

    private static void forEachSection() {
        for (int from = 0; from < 8; from++) {
            for (int to = 0; to < 8; to++) {
                if (from != to) {
                    int sections = from < to ? to - from : from - to;
                    Check.due("from " + from + " to " + to, pay(from, to, 2, 100, 0, 0), 2 * 10 * sections);
                }
            }
        }
    }

    private static void fiveMoreForEachDiversion() {
        for (int diversions = 0; diversions <= 6; diversions += 2) {
            Check.due(diversions + " times", pay(0, 2, 3, 100, diversions, 0), 3 * (20 + 5 * diversions));
            Check.due(diversions + " times, without a rate", pay(0, 2, 3, 0, diversions, 0), 3 * 5 * diversions);
        }
        Towmaster t = new Towmaster();
        t.contract(Towmaster.OIL, 0, 7, 9, 99, 100);
        t.barge(Towmaster.TANK, 0, 0);
        t.load(0, 0, 2);
        t.divert(0, 1);
        bring(t, 0, 1);
        Check.due("that to which it goes by then", t.unload(0), 2 * (10 + 5));
    }

    private static void oneLessForEachHourThatItIsLater() {
        Check.due("two hours early", pay(0, 1, 4, 100, 0, -2), 4 * 10);
        Check.due("an hour early", pay(0, 1, 4, 100, 0, -1), 4 * 10);
        Check.due("in the hour itself", pay(0, 1, 4, 100, 0, 0), 4 * 10);
        Check.due("an hour late", pay(0, 1, 4, 100, 0, 1), 4 * 9);
        Check.due("two hours late", pay(0, 1, 4, 100, 0, 2), 4 * 8);
        Check.due("just nothing", pay(0, 1, 4, 40, 0, 4), 0);
        Check.due("below 0", pay(0, 1, 12, 30, 0, 4), -12);
        Check.due("the hour 0", pay(0, 1, 1, 100, 0, 4), 6);
        Check.due("late and diverted", pay(0, 1, 4, 100, 2, 3), 4 * (10 + 10 - 3));
    }

    private static void eachUnitPays() {
        for (int units = 1; units <= 12; units++) {
            Check.due(units + " units", pay(0, 2, units, 33, 2, 3), units * (6 + 10 - 3));
        }
    }

    /** Units of one contract in three barges, unloaded one after the other, beside another contract. */
    private static void unitsOfManyBarges() {
        Towmaster t = new Towmaster();
        t.reach(0, 1, 60, 4, false);
        t.bank(1, 1, 4);
        t.contract(Towmaster.COAL, 0, 1, 20, 99, 100);
        t.contract(Towmaster.OIL, 0, 1, 9, 0, 0);
        for (int barge = 0; barge < 3; barge++) {
            t.barge(Towmaster.OPEN, 0, 0);
            t.load(barge, 0, 2 + barge);
        }
        contract(t, 0, 11, 9, 0, 0);
        t.load(2, 0, 3);
        contract(t, 0, 8, 12, 0, 0);
        t.pass(1);
        t.load(2, 0, 5);
        contract(t, 0, 3, 17, 0, 0);
        bring(t, 2, 1);
        Check.due("twelve units", t.unload(2), 120);
        contract(t, 0, 3, 5, 12, 120);
        bring(t, 0, 1);
        Check.due("two units", t.unload(0), 20);
        contract(t, 0, 3, 3, 14, 140);
        bring(t, 1, 1);
        Check.due("three units", t.unload(1), 30);
        contract(t, 0, 3, 0, 17, 170);
        contract(t, 1, 9, 0, 0, 0);
        t.barge(Towmaster.TANK, 0, 1);
        t.load(3, 1, 9);
        bring(t, 3, 1);
        int late = t.all(0);
        Check.due("late from the hour 0 on", t.unload(3), -9 * late);
        contract(t, 1, 0, 0, 9, -9 * late);
        contract(t, 0, 3, 0, 17, 170);
        Check.due("all paid", t.all(2), 170 - 9 * late);
    }

    private static void contract(Towmaster t, int contract, int... due) {
        for (int what = 0; what < due.length; what++) {
            Check.due("contract " + contract + ", what " + what, t.ofContract(contract, what), due[what]);
        }
    }

    private static void cleaningCosts20() {
        Towmaster t = new Towmaster();
        t.contract(Towmaster.COAL, 0, 1, 20, 99, 100);
        t.contract(Towmaster.COAL, 1, 0, 20, 99, 100);
        t.barge(Towmaster.OPEN, 0, 1);
        for (int k = 0; k < 4; k++) {
            t.load(0, k % 2, 1);
            bring(t, 0, 1 - k % 2);
            t.unload(0);
            Check.due("before it is cleaned", t.all(4), 20 * k);
            t.clean(0);
            Check.due("cleaned", t.all(4), 20 * (k + 1));
        }
        Check.due("no contract pays for it", t.all(2), 40);
    }
}
