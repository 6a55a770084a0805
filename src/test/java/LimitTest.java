import java.util.function.Consumer;

/**
 * What the state lets and what it does not, by promises: for each reason of an IllegalStateException the last state
 * in which the call is answered, and the first in which it is refused and changes nothing, seen or unseen.
 */
public final class LimitTest {
    public static void main(String[] args) {
        promise2And3BoatInSection();
        promise4Deepest();
        promise8MoreAreTied();
        promise9MostBarges();
        promise9Room();
        promise10MostContracts();
        promise12WhereItIs();
        promise12UsedFor();
        promise12MostCargo();
        promise12LeftOfContract();
        promise12InAnHour();
        promise13Laden();
        promise13WhereItIs();
        promise14Clean();
        promise15MostBoats();
        promise16UnderWay();
        promise16MostFuel();
        promise17HasBarges();
        promise18WhereItIs();
        promise18MostInTow();
        promise19WhereItIs();
        promise19Room();
        promise22LastHour();
        Check.end("LimitTest");
    }

    /** Built twice: the call is refused by one, which is then like the other in all that it holds. */
    private static void notNow(String what, Consumer<Towmaster> built, Consumer<Towmaster> call) {
        Towmaster t = new Towmaster();
        Towmaster twin = new Towmaster();
        built.accept(t);
        built.accept(twin);
        Check.notNow(t, what, () -> call.accept(t));
        Check.due(what + " changed nothing", Scene.all(t).equals(Scene.all(twin)), true);
    }

    private static void isAnswered(String what, Consumer<Towmaster> built, Consumer<Towmaster> call) {
        Towmaster t = new Towmaster();
        built.accept(t);
        try {
            call.accept(t);
        } catch (RuntimeException thrown) {
            Check.fail(what + " threw " + thrown);
        }
    }

    private static void repeat(int times, Runnable call) {
        for (int k = 0; k < times; k++) {
            call.run();
        }
    }

    /** A boat at 0 that goes up the section 0, of 4 hours, for so many hours. */
    private static Consumer<Towmaster> underWay(int hours) {
        return t -> {
            t.boat(1, 1, 0);
            t.fuel(0, 100);
            t.barge(Towmaster.OPEN, 0, 0);
            t.barge(Towmaster.OPEN, 1, 0);
            t.go(0, 1);
            t.pass(hours);
        };
    }

    private static void promise2And3BoatInSection() {
        Consumer<Towmaster> stands = t -> {
            t.boat(1, 1, 0);
            t.boat(1, 1, 1);
            t.go(0, 1);
            t.go(1, 0);
        };
        isAnswered("reach between two that would enter", stands, t -> t.reach(0, 1, 30, 1, false));
        isAnswered("lock between two that would enter", stands, t -> t.lock(0, 1, 1, false));
        for (int hours = 1; hours <= 4; hours++) {
            notNow("reach in the hour " + hours, underWay(hours), t -> t.reach(0, 1, 30, 1, false));
            notNow("lock in the hour " + hours, underWay(hours), t -> t.lock(0, 1, 1, false));
        }
        isAnswered("reach beside it", underWay(1), t -> t.reach(1, 1, 30, 1, false));
        isAnswered("lock beside it", underWay(1), t -> t.lock(1, 1, 1, false));
        isAnswered("reach once it is out", underWay(5), t -> t.reach(0, 1, 30, 1, false));
        isAnswered("lock once it is out", underWay(5), t -> t.lock(0, 1, 1, false));
        Consumer<Towmaster> locked = t -> {
            t.lock(0, 1, 1, false);
            underWay(1).accept(t);
        };
        notNow("reach of a lock with a boat in it", locked, t -> t.reach(0, 1, 30, 1, false));
        notNow("lock of a lock with a boat in it", locked, t -> t.lock(0, 1, 1, false));
    }

    private static void promise4Deepest() {
        for (int depth = 78; depth <= 99; depth++) {
            int first = depth;
            for (int by = 1; by <= 20; by++) {
                int more = by;
                String what = "dredge from " + depth + " by " + by;
                if (depth + by <= 99) {
                    isAnswered(what, t -> t.reach(3, 1, first, 1, false),
                            t -> Check.due(what, t.dredge(3, more), first + more));
                } else if (by == 20 || depth + by == 100) {
                    notNow(what, t -> t.reach(3, 1, first, 1, false), t -> t.dredge(3, more));
                }
            }
        }
        Consumer<Towmaster> deepLock = t -> {
            t.reach(3, 1, 99, 1, false);
            t.lock(3, 1, 1, false);
        };
        notNow("dredge a lock too deep", deepLock, t -> t.dredge(3, 1));
        notNow("a low stage does not help", deepLock.andThen(t -> t.stage(-30, 0)), t -> t.dredge(3, 1));
    }

    private static void promise8MoreAreTied() {
        for (int tied = 0; tied <= 5; tied++) {
            int count = tied;
            Consumer<Towmaster> built = t -> {
                t.bank(2, 1, 5);
                t.barge(Towmaster.OPEN, 2, 0);
                repeat(count, () -> t.barge(Towmaster.OPEN, 2, 1));
            };
            for (int most = 0; most <= 5; most++) {
                int room = most;
                String what = "room " + most + " for " + tied;
                if (most >= tied) {
                    isAnswered(what, built, t -> Check.due(what, t.bank(2, 1, room), 5));
                } else {
                    notNow(what, built, t -> t.bank(2, 1, room));
                }
            }
        }
        Consumer<Towmaster> coupled = t -> {
            t.boat(1, 1, 2);
            t.barge(Towmaster.OPEN, 2, 1);
            t.couple(0, 0);
        };
        isAnswered("one in a tow is not tied there", coupled, t -> t.bank(2, 1, 0));
    }

    private static void promise9MostBarges() {
        Consumer<Towmaster> twentyThree = t -> {
            for (int k = 0; k < 23; k++) {
                t.barge(k % 3, k / 3, 0);
            }
        };
        isAnswered("the 24th", twentyThree, t -> Check.due("its number", t.barge(Towmaster.TANK, 7, 0), 23));
        notNow("the 25th", twentyThree.andThen(t -> t.barge(Towmaster.TANK, 7, 0)), t -> t.barge(Towmaster.OPEN, 7, 1));
    }

    private static void promise9Room() {
        for (int most = 0; most <= 5; most++) {
            int room = most;
            Consumer<Towmaster> almost = t -> {
                t.bank(4, 1, room);
                repeat(room - 1, () -> t.barge(Towmaster.OPEN, 4, 1));
            };
            Consumer<Towmaster> full = room == 0 ? almost : almost.andThen(t -> t.barge(Towmaster.OPEN, 4, 1));
            if (room > 0) {
                isAnswered("one more for the room " + room, almost, t -> t.barge(Towmaster.OPEN, 4, 1));
            }
            notNow("none more for the room " + room, full, t -> t.barge(Towmaster.OPEN, 4, 1));
            isAnswered("the other tier has its own room", full, t -> t.barge(Towmaster.OPEN, 4, 0));
            if (room < 5) {
                Consumer<Towmaster> widened = full.andThen(t -> t.bank(4, 1, room + 1));
                isAnswered("one more place", widened, t -> t.barge(Towmaster.OPEN, 4, 1));
            }
        }
        Consumer<Towmaster> three = t -> repeat(3, () -> t.barge(Towmaster.OPEN, 0, 0));
        notNow("3 at first", three, t -> t.barge(Towmaster.OPEN, 0, 0));
        Consumer<Towmaster> coupled = three.andThen(t -> {
            t.boat(1, 1, 0);
            t.couple(0, 0);
        });
        isAnswered("one that was coupled leaves room", coupled, t -> t.barge(Towmaster.OPEN, 0, 0));
        Consumer<Towmaster> filled = coupled.andThen(t -> t.barge(Towmaster.OPEN, 0, 0));
        notNow("which is filled then", filled, t -> t.barge(Towmaster.OPEN, 0, 0));
    }

    private static void promise10MostContracts() {
        Consumer<Towmaster> eleven = t -> repeat(11, () -> t.contract(Towmaster.COAL, 0, 1, 1, 0, 0));
        isAnswered("the 12th", eleven,
                t -> Check.due("its number", t.contract(Towmaster.OIL, 7, 0, 99, 5000, 300), 11));
        Consumer<Towmaster> twelve = eleven.andThen(t -> t.contract(Towmaster.OIL, 7, 0, 99, 5000, 300));
        notNow("the 13th", twelve, t -> t.contract(Towmaster.COAL, 0, 1, 1, 0, 0));
    }

    /** Contracts of coal from 0 and from 1, and three barges in each tier of the point 0. */
    private static void coal(Towmaster t) {
        t.contract(Towmaster.COAL, 0, 1, 40, 99, 100);
        t.contract(Towmaster.COAL, 1, 0, 40, 99, 100);
        for (int k = 0; k < 6; k++) {
            t.barge(Towmaster.COVERED, 0, k / 3);
        }
        t.boat(9, 4, 0);
        t.fuel(0, 999);
    }

    private static void promise12WhereItIs() {
        for (int barge = 0; barge < 6; barge++) {
            int loaded = barge;
            if (barge % 3 == 2) {
                isAnswered("the outermost " + barge, LimitTest::coal, t -> t.load(loaded, 0, 1));
            } else {
                notNow("not the outermost " + barge, LimitTest::coal, t -> t.load(loaded, 0, 1));
            }
        }
        notNow("of another point", LimitTest::coal, t -> t.load(2, 1, 1));
        Consumer<Towmaster> coupled = t -> {
            coal(t);
            t.couple(0, 2);
        };
        notNow("in a tow", coupled, t -> t.load(2, 0, 1));
        isAnswered("the outermost one now", coupled, t -> t.load(1, 0, 1));
        Consumer<Towmaster> dropped = coupled.andThen(t -> t.drop(0, 2, 0));
        isAnswered("dropped as the outermost", dropped, t -> t.load(2, 0, 1));
        notNow("which the former is no more", dropped, t -> t.load(1, 0, 1));
        Consumer<Towmaster> arrived = coupled.andThen(t -> {
            t.go(0, 1);
            t.pass(10);
            t.drop(0, 2, 0);
        });
        notNow("where the contract goes to", arrived, t -> t.load(2, 0, 1));
        isAnswered("from where it is", arrived, t -> t.load(2, 1, 1));
    }

    private static void promise12UsedFor() {
        Consumer<Towmaster> laden = t -> {
            coal(t);
            t.contract(Towmaster.COAL, 0, 2, 40, 99, 100);
            t.contract(Towmaster.GRAIN, 1, 0, 40, 99, 100);
            t.load(2, 0, 1);
        };
        isAnswered("of the same contract", laden, t -> t.load(2, 0, 11));
        notNow("of another contract of the kind", laden, t -> t.load(2, 2, 1));
        Consumer<Towmaster> emptied = laden.andThen(t -> {
            t.couple(0, 2);
            t.go(0, 1);
            t.pass(10);
            t.drop(0, 2, 0);
            t.unload(2);
        });
        isAnswered("of the kind, emptied", emptied, t -> t.load(2, 1, 1));
        notNow("of another kind, emptied", emptied, t -> t.load(2, 3, 1));
        isAnswered("of another kind, cleaned", emptied.andThen(t -> t.clean(2)), t -> t.load(2, 3, 1));
        isAnswered("of the kind, cleaned", emptied.andThen(t -> t.clean(2)), t -> t.load(2, 1, 1));
        Consumer<Towmaster> used = emptied.andThen(t -> {
            t.clean(2);
            t.load(2, 3, 1);
        });
        notNow("used for grain since", used, t -> t.load(2, 1, 1));
    }

    private static void promise12MostCargo() {
        for (int first = 1; first <= 12; first++) {
            int had = first;
            Consumer<Towmaster> laden = t -> {
                coal(t);
                t.load(2, 0, had);
                t.pass(1);
            };
            if (had < 12) {
                isAnswered("12 after " + had, laden, t -> Check.due("cargo", t.load(2, 0, 12 - had), 12));
            }
            notNow("13 after " + had, laden, t -> t.load(2, 0, 13 - had));
        }
        isAnswered("12 at once", LimitTest::coal, t -> Check.due("cargo", t.load(2, 0, 12), 12));
    }

    private static void promise12LeftOfContract() {
        for (int count = 1; count <= 12; count++) {
            int units = count;
            Consumer<Towmaster> built = t -> {
                t.contract(Towmaster.COAL, 0, 1, units, 99, 100);
                t.barge(Towmaster.OPEN, 0, 0);
                t.barge(Towmaster.OPEN, 0, 1);
            };
            isAnswered("all " + units, built, t -> Check.due("cargo", t.load(0, 0, units), units));
            if (units < 12) {
                notNow("one more than " + units, built, t -> t.load(0, 0, units + 1));
            }
            notNow("none is left", built.andThen(t -> t.load(0, 0, units)).andThen(t -> t.pass(1)), t -> t.load(1, 0, 1));
        }
        Consumer<Towmaster> most = t -> {
            t.contract(Towmaster.COAL, 0, 1, 99, 99, 100);
            for (int k = 0; k < 9; k++) {
                t.bank(0, k % 2, 5);
                t.barge(Towmaster.OPEN, 0, k % 2);
                Check.due("a whole barge", k < 8 ? t.load(k, 0, 12) : 0, k < 8 ? 12 : 0);
                t.pass(1);
            }
        };
        isAnswered("the last 3 of 99", most, t -> Check.due("cargo", t.load(8, 0, 3), 3));
        notNow("4 where 3 of 99 are left", most, t -> t.load(8, 0, 4));
    }

    private static void promise12InAnHour() {
        Consumer<Towmaster> two = t -> {
            coal(t);
            t.contract(Towmaster.GRAIN, 0, 7, 40, 99, 100);
            t.barge(Towmaster.OPEN, 1, 0);
        };
        Consumer<Towmaster> full = two.andThen(t -> {
            t.load(2, 0, 5);
            t.load(5, 2, 6);
            t.load(2, 0, 1);
        });
        notNow("13 of two contracts, in two tiers", full, t -> t.load(5, 2, 1));
        notNow("13 of the one contract", full, t -> t.load(2, 0, 1));
        isAnswered("at another point", full, t -> t.load(6, 1, 12));
        isAnswered("12 in the next hour", full.andThen(t -> t.pass(1)), t -> {
            t.load(2, 0, 6);
            t.load(5, 2, 6);
        });
        Consumer<Towmaster> again = full.andThen(t -> {
            t.pass(1);
            t.load(2, 0, 6);
            t.load(5, 2, 5);
        });
        isAnswered("11 and 1 in the next hour", again, t -> t.load(5, 2, 1));
        notNow("13 in the next hour", again.andThen(t -> t.load(5, 2, 1)), t -> t.load(1, 0, 1));
        Consumer<Towmaster> outer = again.andThen(t -> {
            t.load(5, 2, 1);
            t.couple(0, 2);
        });
        notNow("nor into the one that is the outermost now", outer, t -> t.load(1, 0, 1));
        isAnswered("which would be in another hour", outer.andThen(t -> t.pass(1)), t -> t.load(1, 0, 12));
        notNow("a refused one does not count, but 13 are too many", two.andThen(t -> t.load(2, 0, 11)),
                t -> t.load(5, 2, 2));
        isAnswered("unloading gives no more", two.andThen(t -> t.load(2, 0, 11)), t -> t.load(5, 2, 1));
    }

    /** The barge 2 with 3 units at the point 1, to which they go, in the tow of the boat 0. */
    private static void brought(Towmaster t) {
        coal(t);
        t.load(2, 0, 3);
        t.couple(0, 2);
        t.go(0, 1);
        t.pass(10);
    }

    private static void promise13Laden() {
        Consumer<Towmaster> dropped = t -> {
            brought(t);
            t.drop(0, 2, 1);
        };
        isAnswered("laden", dropped, t -> Check.due("pay", t.unload(2), 30));
        notNow("not laden any more", dropped.andThen(t -> t.unload(2)), t -> t.unload(2));
        notNow("never laden", LimitTest::coal, t -> t.unload(2));
    }

    private static void promise13WhereItIs() {
        Consumer<Towmaster> atFirst = t -> {
            coal(t);
            t.load(2, 0, 3);
        };
        notNow("where it was loaded", atFirst, t -> t.unload(2));
        notNow("in a tow", LimitTest::brought, t -> t.unload(2));
        Consumer<Towmaster> dropped = t -> {
            brought(t);
            t.barge(Towmaster.OPEN, 1, 1);
            t.drop(0, 2, 1);
        };
        isAnswered("as the outermost", dropped, t -> t.unload(2));
        Consumer<Towmaster> inside = dropped.andThen(t -> t.barge(Towmaster.OPEN, 1, 1));
        notNow("with one outside", inside, t -> t.unload(2));
        isAnswered("one in the other tier is not outside", dropped.andThen(t -> t.barge(Towmaster.OPEN, 1, 0)),
                t -> t.unload(2));
        notNow("diverted from here", dropped.andThen(t -> t.divert(0, 2)), t -> t.unload(2));
        isAnswered("and back", dropped.andThen(t -> t.divert(0, 2)).andThen(t -> t.divert(0, 1)),
                t -> Check.due("pay", t.unload(2), 3 * 20));
    }

    private static void promise14Clean() {
        Consumer<Towmaster> laden = t -> {
            brought(t);
            t.drop(0, 2, 1);
        };
        notNow("never used", LimitTest::coal, t -> t.clean(2));
        notNow("laden", laden, t -> t.clean(2));
        Consumer<Towmaster> emptied = laden.andThen(t -> t.unload(2));
        isAnswered("used", emptied, t -> Check.due("kind", t.clean(2), Towmaster.COAL));
        isAnswered("used, with one outside", emptied.andThen(t -> t.barge(Towmaster.OPEN, 1, 1)), t -> t.clean(2));
        notNow("in a tow", emptied.andThen(t -> t.couple(0, 2)), t -> t.clean(2));
        notNow("clean already", emptied.andThen(t -> t.clean(2)), t -> t.clean(2));
    }

    private static void promise15MostBoats() {
        Consumer<Towmaster> five = t -> repeat(5, () -> t.boat(1, 1, 0));
        isAnswered("the 6th", five, t -> Check.due("its number", t.boat(9, 4, 7), 5));
        notNow("the 7th", five.andThen(t -> t.boat(9, 4, 7)), t -> t.boat(1, 1, 0));
    }

    private static void promise16UnderWay() {
        for (int hours = 1; hours <= 4; hours++) {
            notNow("fuel in the hour " + hours, underWay(hours), t -> t.fuel(0, 1));
        }
        isAnswered("fuel once it is out", underWay(5), t -> Check.due("fuel", t.fuel(0, 1), 100 - 4 + 1));
    }

    private static void promise16MostFuel() {
        isAnswered("999 at once", t -> t.boat(1, 1, 0), t -> Check.due("fuel", t.fuel(0, 999), 999));
        for (int had : new int[] {1, 500, 998, 999}) {
            Consumer<Towmaster> built = t -> {
                t.boat(1, 1, 0);
                t.fuel(0, had);
            };
            if (had < 999) {
                isAnswered("999 after " + had, built, t -> Check.due("fuel", t.fuel(0, 999 - had), 999));
            }
            notNow("1000 after " + had, built, t -> t.fuel(0, 1000 - had));
        }
    }

    private static void promise17HasBarges() {
        Consumer<Towmaster> one = t -> {
            coal(t);
            t.couple(0, 2);
        };
        notNow("with one barge", one, t -> t.wide(0, 3));
        notNow("the same again", one, t -> t.wide(0, 2));
        isAnswered("without", LimitTest::coal, t -> Check.due("wide", t.wide(0, 4), 2));
        isAnswered("without any more", one.andThen(t -> t.drop(0, 2, 0)), t -> Check.due("wide", t.wide(0, 1), 2));
        isAnswered("under way", underWay(1), t -> Check.due("wide", t.wide(0, 1), 2));
    }

    private static void promise18WhereItIs() {
        for (int hours = 1; hours <= 4; hours++) {
            notNow("couple what it left, in the hour " + hours, underWay(hours), t -> t.couple(0, 0));
            notNow("couple what it comes to, in the hour " + hours, underWay(hours), t -> t.couple(0, 1));
        }
        isAnswered("once it is there", underWay(5), t -> Check.due("couple", t.couple(0, 1), 1));
        notNow("at the other point", underWay(5), t -> t.couple(0, 0));
        Consumer<Towmaster> twoBoats = t -> {
            coal(t);
            t.boat(1, 1, 0);
            t.couple(0, 2);
        };
        notNow("in its own tow", twoBoats, t -> t.couple(0, 2));
        notNow("in the tow of another", twoBoats, t -> t.couple(1, 2));
        isAnswered("in the other tier", twoBoats, t -> Check.due("couple", t.couple(0, 3), 2));
    }

    private static void promise18MostInTow() {
        Consumer<Towmaster> eleven = t -> {
            t.boat(9, 4, 0);
            t.barge(Towmaster.OPEN, 0, 1);
            for (int k = 1; k < 12; k++) {
                t.barge(Towmaster.OPEN, 0, 0);
                t.couple(0, k);
            }
            t.barge(Towmaster.OPEN, 0, 1);
        };
        isAnswered("the 12th", eleven, t -> Check.due("couple", t.couple(0, 0), 12));
        Consumer<Towmaster> twelve = eleven.andThen(t -> t.couple(0, 0));
        notNow("the 13th", twelve, t -> t.couple(0, 12));
        isAnswered("12 again", twelve.andThen(t -> t.drop(0, 5, 0)), t -> Check.due("couple", t.couple(0, 12), 12));
        isAnswered("another boat", twelve.andThen(t -> t.boat(1, 1, 0)), t -> Check.due("couple", t.couple(1, 12), 1));
    }

    private static void promise19WhereItIs() {
        Consumer<Towmaster> coupled = t -> {
            coal(t);
            t.boat(1, 1, 0);
            t.couple(0, 2);
        };
        notNow("tied", coupled, t -> t.drop(0, 1, 0));
        notNow("in the tow of another", coupled, t -> t.drop(1, 2, 0));
        isAnswered("in its tow", coupled, t -> Check.due("drop", t.drop(0, 2, 0), 0));
        notNow("dropped already", coupled.andThen(t -> t.drop(0, 2, 0)), t -> t.drop(0, 2, 0));
        for (int hours = 1; hours <= 4; hours++) {
            int past = hours;
            Consumer<Towmaster> gone = coupled.andThen(t -> {
                t.go(0, 1);
                t.pass(past);
            });
            notNow("under way in the hour " + hours, gone, t -> t.drop(0, 2, 0));
        }
        Consumer<Towmaster> there = coupled.andThen(t -> {
            t.go(0, 1);
            t.pass(5);
        });
        isAnswered("there", there, t -> {
            t.drop(0, 2, 1);
            Check.due("tied at", t.ofBarge(2, 0), 1);
        });
    }

    private static void promise19Room() {
        for (int most = 0; most <= 5; most++) {
            int room = most;
            Consumer<Towmaster> full = t -> {
                t.boat(1, 1, 6);
                t.barge(Towmaster.OPEN, 6, 0);
                t.couple(0, 0);
                t.bank(6, 1, room);
                repeat(room, () -> t.barge(Towmaster.OPEN, 6, 1));
            };
            notNow("drop into a full tier of " + room, full, t -> t.drop(0, 0, 1));
            isAnswered("the other tier", full, t -> Check.due("drop", t.drop(0, 0, 0), 0));
            if (room < 5) {
                isAnswered("one more place", full.andThen(t -> t.bank(6, 1, room + 1)), t -> {
                    t.drop(0, 0, 1);
                    Check.due("as the outermost", t.ofBarge(0, 5), room);
                });
            }
        }
    }

    private static void promise22LastHour() {
        Consumer<Towmaster> late = t -> {
            t.boat(1, 1, 0);
            t.fuel(0, 99);
            repeat(103, () -> t.pass(48));
        };
        isAnswered("4992", late, t -> Check.due("hour", t.pass(48), 4992));
        Consumer<Towmaster> later = late.andThen(t -> t.pass(8));
        isAnswered("48 to 5000", later, t -> Check.due("hour", t.pass(48), 5000));
        Consumer<Towmaster> tooLate = late.andThen(t -> t.pass(9)).andThen(t -> t.go(0, 1));
        notNow("48 to 5001: not one hour goes by", tooLate, t -> t.pass(48));
        isAnswered("47 to 5000", tooLate, t -> Check.due("hour", t.pass(47), 5000));
        Consumer<Towmaster> last = tooLate.andThen(t -> t.pass(46));
        isAnswered("1 to 5000", last, t -> Check.due("hour", t.pass(1), 5000));
        notNow("2 to 5001", last, t -> t.pass(2));
        notNow("1 to 5001", last.andThen(t -> t.pass(1)), t -> t.pass(1));
        notNow("48 to 5048", last.andThen(t -> t.pass(1)), t -> t.pass(48));
    }
}
