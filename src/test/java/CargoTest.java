/** Promises 8 to 14, 29 and 33: tiers, barges, contracts, loading, unloading, cleaning. */
public final class CargoTest {
    public static void main(String[] args) {
        promise8Bank();
        promise9Barge();
        promise10Contract();
        promise11Divert();
        promise12LoadTypes();
        promise12LoadLimits();
        promise12LoadInAnHour();
        promise12LoadTogether();
        promise13Unload();
        promise13Pay();
        promise14Clean();
        promise29OfBarge();
        promise33OfContract();
        Check.end("CargoTest");
    }

    private static void promise8Bank() {
        Towmaster t = new Towmaster();
        Check.due("bank", t.bank(7, 1, 5), 3);
        Check.due("bank", t.bank(7, 1, 0), 5);
        Check.due("the other tier", t.bank(7, 0, 1), 3);
        Check.notNow(t, "no room", () -> t.barge(Towmaster.OPEN, 7, 1));
        t.barge(Towmaster.OPEN, 7, 0);
        Check.notNow(t, "room for one", () -> t.barge(Towmaster.OPEN, 7, 0));
        t.bank(7, 0, 5);
        for (int k = 1; k < 5; k++) {
            t.barge(Towmaster.OPEN, 7, 0);
        }
        Check.notNow(t, "more are tied there", () -> t.bank(7, 0, 4));
        Check.due("as many are tied there", t.bank(7, 0, 5), 5);
        Check.notAllowed(t, "the range comes first", () -> t.bank(7, 0, -1));
        Check.notAllowed(t, "6", () -> t.bank(7, 0, 6));
        Check.noSuch(t, "point 8", () -> t.bank(8, 0, 6));
        Check.noSuch(t, "point -1", () -> t.bank(-1, 0, 3));
        Check.noSuch(t, "tier 2", () -> t.bank(0, 2, 6));
        Check.noSuch(t, "tier -1", () -> t.bank(1, -1, 3));
    }

    private static void promise9Barge() {
        Towmaster t = new Towmaster();
        Check.noSuch(t, "point 8", () -> t.barge(3, 8, 0));
        Check.noSuch(t, "point -1", () -> t.barge(0, -1, 0));
        Check.noSuch(t, "tier 2", () -> t.barge(3, 0, 2));
        Check.noSuch(t, "tier -1", () -> t.barge(0, 1, -1));
        Check.notAllowed(t, "type 3", () -> t.barge(3, 0, 0));
        Check.notAllowed(t, "type -1", () -> t.barge(-1, 0, 0));
        for (int k = 0; k < 24; k++) {
            Check.due("barge", t.barge(k % 3, k / 6, k / 3 % 2), k);
        }
        Check.notNow(t, "25 barges", () -> t.barge(0, 7, 0));
        Check.notAllowed(t, "the range comes first", () -> t.barge(3, 7, 0));
        Check.due("the last one is at", t.ofBarge(23, 0), 3);
        Check.due("tier", t.ofBarge(23, 4), 1);
        Check.due("place", t.ofBarge(23, 5), 2);
    }

    private static void promise10Contract() {
        Towmaster t = new Towmaster();
        Check.noSuch(t, "from -1", () -> t.contract(9, -1, 1, 1, 0, 0));
        Check.noSuch(t, "from 8", () -> t.contract(0, 8, 1, 1, 0, 0));
        Check.noSuch(t, "to -1", () -> t.contract(0, 0, -1, 0, 0, 0));
        Check.noSuch(t, "to 8", () -> t.contract(0, 0, 8, 1, 0, 0));
        Check.notAllowed(t, "kind -1", () -> t.contract(-1, 0, 1, 1, 0, 0));
        Check.notAllowed(t, "kind 3", () -> t.contract(3, 0, 1, 1, 0, 0));
        Check.notAllowed(t, "one point", () -> t.contract(0, 1, 1, 1, 0, 0));
        Check.notAllowed(t, "0 units", () -> t.contract(0, 0, 1, 0, 0, 0));
        Check.notAllowed(t, "100 units", () -> t.contract(0, 0, 1, 100, 0, 0));
        Check.notAllowed(t, "till -1", () -> t.contract(0, 0, 1, 1, -1, 0));
        Check.notAllowed(t, "till 5001", () -> t.contract(0, 0, 1, 1, 5001, 0));
        Check.notAllowed(t, "rate -1", () -> t.contract(0, 0, 1, 1, 0, -1));
        Check.notAllowed(t, "rate 301", () -> t.contract(0, 0, 1, 1, 0, 301));
        Check.due("contract", t.contract(0, 0, 7, 1, 0, 0), 0);
        Check.due("contract", t.contract(2, 7, 0, 99, 5000, 300), 1);
        for (int k = 2; k < 12; k++) {
            Check.due("contract", t.contract(1, 3, 4, k, 9, 100), k);
        }
        Check.notNow(t, "13 contracts", () -> t.contract(1, 3, 4, 5, 9, 100));
        Check.notAllowed(t, "the range comes first", () -> t.contract(1, 3, 3, 5, 9, 100));
        Check.due("units", t.ofContract(11, 0), 11);
    }

    private static void promise11Divert() {
        Towmaster t = new Towmaster();
        t.contract(0, 2, 5, 9, 99, 100);
        Check.due("divert", t.divert(0, 7), 5);
        Check.due("divert", t.divert(0, 0), 7);
        Check.due("it goes to", t.ofContract(0, 4), 0);
        Check.due("twice", t.ofContract(0, 5), 2);
        Check.notAllowed(t, "that from which it is", () -> t.divert(0, 2));
        Check.notAllowed(t, "that to which it goes", () -> t.divert(0, 0));
        Check.noSuch(t, "contract 1", () -> t.divert(1, 5));
        Check.noSuch(t, "contract -1", () -> t.divert(-1, 5));
        Check.noSuch(t, "point 8", () -> t.divert(0, 8));
        Check.noSuch(t, "point -1", () -> t.divert(0, -1));
        Check.due("to the first one again", t.divert(0, 5), 0);
    }

    private static void promise12LoadTypes() {
        boolean[][] fits = {{true, true, false}, {false, true, false}, {false, false, true}};
        for (int kind = Towmaster.COAL; kind <= Towmaster.OIL; kind++) {
            for (int type = Towmaster.OPEN; type <= Towmaster.TANK; type++) {
                Towmaster t = new Towmaster();
                t.barge(type, 0, 0);
                int contract = t.contract(kind, 0, 1, 5, 99, 100);
                if (fits[kind][type]) {
                    Check.due("load " + kind + " in " + type, t.load(0, contract, 1), 1);
                } else {
                    Check.notNow(t, "load " + kind + " in " + type, () -> t.load(0, contract, 1));
                }
            }
        }
    }

    private static void promise12LoadLimits() {
        Towmaster t = new Towmaster();
        int coal = t.contract(Towmaster.COAL, 3, 4, 5, 99, 100);
        t.barge(Towmaster.COVERED, 3, 0);
        t.barge(Towmaster.COVERED, 3, 0);
        t.barge(Towmaster.COVERED, 4, 0);
        Check.noSuch(t, "barge 3", () -> t.load(3, coal, 0));
        Check.noSuch(t, "barge -1", () -> t.load(-1, coal, 1));
        Check.noSuch(t, "contract 1", () -> t.load(1, 1, 13));
        Check.noSuch(t, "contract -1", () -> t.load(1, -1, 1));
        Check.notAllowed(t, "0 units", () -> t.load(0, coal, 0));
        Check.notAllowed(t, "13 units", () -> t.load(1, coal, 13));
        Check.notNow(t, "one lies outside", () -> t.load(0, coal, 1));
        Check.notNow(t, "another point", () -> t.load(2, coal, 1));
        Check.notNow(t, "more than the contract has", () -> t.load(1, coal, 6));
        Check.due("all that the contract has", t.load(1, coal, 5), 5);
        Check.notNow(t, "none is left", () -> t.load(1, coal, 1));
        t.boat(1, 1, 3);
        t.couple(0, 0);
        int more = t.contract(Towmaster.COAL, 3, 4, 50, 99, 100);
        Check.notNow(t, "in a tow", () -> t.load(0, more, 1));
        Check.notNow(t, "it has cargo of another contract", () -> t.load(1, more, 1));
        int oil = t.contract(Towmaster.OIL, 3, 4, 50, 99, 100);
        t.barge(Towmaster.TANK, 3, 1);
        t.pass(1);
        Check.due("a whole barge", t.load(3, oil, 12), 12);
        t.pass(1);
        Check.notNow(t, "more than 12", () -> t.load(3, oil, 1));
    }

    private static void promise12LoadInAnHour() {
        Towmaster t = new Towmaster();
        int coal = t.contract(Towmaster.COAL, 0, 1, 99, 99, 100);
        int oil = t.contract(Towmaster.OIL, 0, 1, 99, 99, 100);
        int elsewhere = t.contract(Towmaster.COAL, 1, 0, 99, 99, 100);
        t.barge(Towmaster.OPEN, 0, 0);
        t.barge(Towmaster.TANK, 0, 1);
        t.barge(Towmaster.OPEN, 1, 1);
        t.load(0, coal, 7);
        Check.notNow(t, "13 in an hour at a point", () -> t.load(1, oil, 6));
        Check.due("12 in an hour at a point", t.load(1, oil, 5), 5);
        Check.due("another point has its own 12", t.load(2, elsewhere, 12), 12);
        Check.notNow(t, "a point is full for this hour", () -> t.load(0, coal, 1));
        t.pass(1);
        Check.due("the next hour has 12 again", t.load(0, coal, 5), 12);
        Check.due("together", t.load(1, oil, 7), 12);
    }

    private static void promise12LoadTogether() {
        Towmaster t = new Towmaster();
        int coal = t.contract(Towmaster.COAL, 0, 1, 99, 99, 100);
        int alike = t.contract(Towmaster.COAL, 0, 2, 99, 99, 100);
        int grain = t.contract(Towmaster.GRAIN, 0, 2, 99, 99, 100);
        t.contract(Towmaster.COAL, 1, 0, 99, 99, 100);
        t.barge(Towmaster.COVERED, 0, 0);
        t.load(0, coal, 2);
        Check.due("more of the same", t.load(0, coal, 1), 3);
        Check.notNow(t, "the same kind, another contract", () -> t.load(0, alike, 1));
        bring(t, 0, 1);
        t.unload(0);
        Check.due("the same kind, once it is empty", t.load(0, 3, 1), 1);
        bring(t, 1, 0);
        t.unload(0);
        Check.notNow(t, "another kind, used for coal", () -> t.load(0, grain, 1));
        t.clean(0);
        Check.due("another kind, once it is cleaned", t.load(0, grain, 4), 4);
        Check.due("used for", t.ofBarge(0, 3), Towmaster.GRAIN);
    }

    private static void promise13Unload() {
        Towmaster t = new Towmaster();
        int coal = t.contract(Towmaster.COAL, 0, 1, 99, 99, 100);
        t.barge(Towmaster.OPEN, 0, 0);
        Check.noSuch(t, "barge 1", () -> t.unload(1));
        Check.noSuch(t, "barge -1", () -> t.unload(-1));
        Check.notNow(t, "not laden", () -> t.unload(0));
        t.load(0, coal, 9);
        Check.notNow(t, "not where it goes", () -> t.unload(0));
        t.divert(coal, 2);
        bring(t, 0, 1);
        Check.notNow(t, "not where it goes by then", () -> t.unload(0));
        t.divert(coal, 1);
        t.couple(0, 0);
        Check.notNow(t, "in a tow", () -> t.unload(0));
        t.drop(0, 0, 1);
        t.barge(Towmaster.OPEN, 1, 1);
        Check.notNow(t, "one lies outside", () -> t.unload(0));
        t.couple(0, 1);
        Check.due("unload", t.unload(0), 9 * (10 + 10));
        Check.due("cargo", t.ofBarge(0, 1), 0);
        Check.due("contract", t.ofBarge(0, 2), Towmaster.NONE);
        Check.due("used", t.ofBarge(0, 3), Towmaster.COAL);
        Check.notNow(t, "not laden any more", () -> t.unload(0));
    }

    private static void promise13Pay() {
        Check.due("three sections", pay(3, 100, 5000, 0), 4 * 30);
        Check.due("rounded down for each", pay(1, 99, 5000, 0), 4 * 9);
        Check.due("rounded down for each", pay(3, 25, 5000, 0), 4 * 7);
        Check.due("without a rate", pay(3, 0, 5000, 0), 0);
        Check.due("three times the tariff", pay(7, 300, 5000, 0), 4 * 210);
        Check.due("diverted twice", pay(2, 100, 5000, 2), 4 * 30);
        Check.due("in time to the hour", pay(1, 100, 3, 0), 4 * 10);
        Check.due("an hour late", pay(1, 100, 2, 0), 4 * 9);
        Check.due("below 0", pay(1, 0, 0, 0), 4 * -3);

        Towmaster t = new Towmaster();
        t.contract(Towmaster.COAL, 5, 4, 9, 99, 100);
        t.barge(Towmaster.OPEN, 5, 0);
        t.load(0, 0, 2);
        bring(t, 5, 4);
        Check.due("down a section", t.unload(0), 2 * 10);
    }

    /** What 4 units pay that go up some sections of an hour each way, unloaded in the hour 3 if it is one. */
    private static int pay(int sections, int rate, int till, int diversions) {
        Towmaster t = new Towmaster();
        int end = sections;
        t.contract(Towmaster.COAL, 0, end, 99, till, rate);
        for (int k = 0; k < diversions; k++) {
            t.divert(0, t.ofContract(0, 4) == end ? (end == 7 ? 6 : 7) : end);
        }
        t.barge(Towmaster.OPEN, 0, 0);
        t.load(0, 0, 4);
        for (int k = 0; k < sections; k++) {
            t.reach(k, 1, 30, 4, false);
        }
        bring(t, 0, end);
        if (sections == 1) {
            Check.due("hour", t.all(0), 3);
        }
        int pay = t.unload(0);
        Check.due("paid", t.ofContract(0, 3), pay);
        Check.due("all paid", t.all(2), pay);
        return pay;
    }

    /** Pushes the barge 0 from one point to another, with a boat brought for it. */
    private static void bring(Towmaster t, int from, int to) {
        int boat = t.boat(2, 4, from);
        t.fuel(boat, 999);
        t.couple(boat, 0);
        t.go(boat, to);
        while (t.ofBoat(boat, 0) != to) {
            t.pass(1);
        }
        t.drop(boat, 0, 0);
    }

    private static void promise14Clean() {
        Towmaster t = new Towmaster();
        int oil = t.contract(Towmaster.OIL, 0, 1, 99, 99, 100);
        t.barge(Towmaster.TANK, 0, 0);
        Check.noSuch(t, "barge 1", () -> t.clean(1));
        Check.noSuch(t, "barge -1", () -> t.clean(-1));
        Check.notNow(t, "used for none", () -> t.clean(0));
        t.load(0, oil, 1);
        Check.notNow(t, "laden", () -> t.clean(0));
        bring(t, 0, 1);
        t.unload(0);
        t.couple(0, 0);
        Check.notNow(t, "in a tow", () -> t.clean(0));
        t.drop(0, 0, 0);
        t.barge(Towmaster.TANK, 1, 0);
        Check.due("clean, with one outside", t.clean(0), Towmaster.OIL);
        Check.due("used for none", t.ofBarge(0, 3), Towmaster.NONE);
        Check.due("cost", t.all(4), 20);
        Check.notNow(t, "used for none since", () -> t.clean(0));
    }

    private static void promise29OfBarge() {
        Towmaster t = new Towmaster();
        for (int k = 0; k < 3; k++) {
            t.barge(Towmaster.OPEN, 5, 1);
        }
        barge(t, 0, 5, 0, -1, -1, 1, 0, 2);
        barge(t, 1, 5, 0, -1, -1, 1, 1, 1);
        t.contract(Towmaster.COAL, 5, 6, 9, 9, 100);
        t.load(2, 0, 8);
        barge(t, 2, 5, 8, 0, 0, 1, 2, 0);
        t.boat(9, 4, 5);
        t.fuel(0, 999);
        t.couple(0, 1);
        barge(t, 1, 15, 0, -1, -1, -1, 0, 0);
        barge(t, 2, 5, 8, 0, 0, 1, 1, 0);
        t.couple(0, 2);
        barge(t, 1, 15, 0, -1, -1, -1, 0, 0);
        barge(t, 2, 15, 8, 0, 0, -1, 1, 0);
        t.go(0, 6);
        t.pass(2);
        barge(t, 2, 25, 8, 0, 0, -1, 1, 0);
        barge(t, 0, 5, 0, -1, -1, 1, 0, 0);
        t.pass(4);
        barge(t, 2, 16, 8, 0, 0, -1, 1, 0);
        t.drop(0, 1, 0);
        barge(t, 2, 16, 8, 0, 0, -1, 0, 0);
        barge(t, 1, 6, 0, -1, -1, 0, 0, 0);
        Check.noSuch(t, "barge 3", () -> t.ofBarge(3, 0));
        Check.noSuch(t, "barge -1", () -> t.ofBarge(-1, 0));
        Check.noSuch(t, "what 7", () -> t.ofBarge(0, 7));
        Check.noSuch(t, "what -1", () -> t.ofBarge(0, -1));
    }

    private static void barge(Towmaster t, int barge, int... due) {
        for (int what = 0; what < due.length; what++) {
            Check.due("barge " + barge + ", what " + what, t.ofBarge(barge, what), due[what]);
        }
        Check.due("barge " + barge + " anew", t.placeAnew(barge), due[0]);
    }

    private static void promise33OfContract() {
        Towmaster t = new Towmaster();
        int coal = t.contract(Towmaster.COAL, 0, 2, 20, 99, 100);
        t.barge(Towmaster.OPEN, 0, 0);
        contract(t, coal, 20, 0, 0, 0, 2, 0);
        t.load(0, coal, 7);
        contract(t, coal, 13, 7, 0, 0, 2, 0);
        bring(t, 0, 1);
        t.divert(coal, 1);
        contract(t, coal, 13, 7, 0, 0, 1, 1);
        t.unload(0);
        contract(t, coal, 13, 0, 7, 7 * 15, 1, 1);
        t.barge(Towmaster.OPEN, 0, 0);
        t.load(1, coal, 12);
        contract(t, coal, 1, 12, 7, 7 * 15, 1, 1);
        Check.noSuch(t, "contract 1", () -> t.ofContract(1, 0));
        Check.noSuch(t, "contract -1", () -> t.ofContract(-1, 0));
        Check.noSuch(t, "what 6", () -> t.ofContract(0, 6));
        Check.noSuch(t, "what -1", () -> t.ofContract(0, -1));
    }

    private static void contract(Towmaster t, int contract, int... due) {
        for (int what = 0; what < due.length; what++) {
            Check.due("contract " + contract + ", what " + what, t.ofContract(contract, what), due[what]);
        }
    }
}
