/** Objects in which much has happened already, built the same each time, and what shows whether two are alike. */
final class Scene {
    private Scene() {
    }

    /**
     * Room for one more of each: 23 barges, 11 contracts, 5 boats. A lock into which boats went, ice, fog, a shut
     * section, a radio, cargo, work, a boat under way, a tow.
     */
    static Towmaster young() {
        Towmaster t = new Towmaster();
        river(t);
        for (int k = 0; k < 23; k++) {
            t.barge(k % 3, k / 3, k % 3 == 0 ? 1 : 0);
        }
        t.contract(Towmaster.COAL, 0, 1, 99, 20, 150);
        for (int k = 1; k < 11; k++) {
            t.contract(k % 3, k % 7, k % 7 + 1, 10 + k, 100 * k, 30 * k);
        }
        boats(t);
        happenings(t);
        return t;
    }

    /** The same, with 24 barges, 12 contracts, 6 boats. */
    static Towmaster full() {
        Towmaster t = young();
        t.barge(Towmaster.TANK, 7, 0);
        t.contract(Towmaster.OIL, 7, 6, 40, 30, 250);
        t.boat(9, 4, 7);
        return t;
    }

    private static void river(Towmaster t) {
        t.reach(1, 3, 40, 2, true);
        t.lock(3, 2, 2, true);
        t.reach(5, 9, 50, 4, false);
        t.lock(0, 1, 1, false);
        t.stage(12, 2);
        t.weather(2, 1, true);
        t.weather(6, 2, false);
        t.fog(true);
        t.bank(5, 1, 4);
        t.bank(6, 0, 5);
    }

    private static void boats(Towmaster t) {
        t.boat(4, 2, 0);
        t.boat(6, 1, 3);
        t.boat(5, 3, 4);
        t.boat(9, 4, 5);
        t.boat(3, 4, 2);
        for (int boat = 0; boat < 5; boat++) {
            t.fuel(boat, 150 + 10 * boat);
        }
        t.wide(4, 3);
    }

    private static void happenings(Towmaster t) {
        t.go(1, 4);
        t.go(2, 3);
        t.go(3, 6);
        t.pass(3);
        t.load(9, 3, 4);
        t.couple(4, 6);
        t.go(1, 3);
        t.go(2, 4);
        t.go(4, 1);
        t.radio(0, 4, true);
        t.radio(1, 3, true);
    }

    /** The full scene, with the barges 0 and 23 laden where their contracts go, in the tows of the boats 0 and 5. */
    static Towmaster coupled() {
        Towmaster t = full();
        t.load(0, 0, 4);
        t.load(23, 11, 5);
        t.couple(0, 0);
        t.couple(5, 23);
        t.fuel(5, 500);
        t.go(0, 1);
        t.go(5, 6);
        t.pass(20);
        return t;
    }

    /** The same, with both dropped. */
    static Towmaster dropped() {
        Towmaster t = coupled();
        t.drop(0, 0, 1);
        t.drop(5, 23, 0);
        return t;
    }

    /** The same, with both unloaded. */
    static Towmaster unloaded() {
        Towmaster t = dropped();
        t.unload(0);
        t.unload(23);
        return t;
    }

    /** All that an object holds, also what only a telling call answers; the object is done with after this. */
    static String all(Towmaster t) {
        StringBuilder text = new StringBuilder(Check.picture(t));
        int boats = Check.count(t, 'b');
        boolean isFoggy = t.fog(false);
        t.fog(isFoggy);
        text.append(isFoggy).append("\nradio ");
        for (int one = 0; one < boats; one++) {
            for (int other = 0; other < one; other++) {
                boolean haveAgreed = t.radio(one, other, false);
                t.radio(one, other, haveAgreed);
                text.append(haveAgreed).append(' ');
            }
        }
        text.append("\nrows ");
        for (int boat = 0; boat < boats; boat++) {
            if (t.ofBoat(boat, 5) == 0) {
                int places = t.wide(boat, 2);
                t.wide(boat, places);
                text.append(places).append(' ');
            }
        }
        loads(t, text);
        journeys(t, text, boats);
        text.append("\nice ");
        for (int section = 0; section < 7; section++) {
            text.append(t.weather(section, 0, false)).append(' ');
        }
        text.append("\nrooms ");
        for (int point = 0; point < 8; point++) {
            text.append(t.bank(point, 0, 5)).append(' ').append(t.bank(point, 1, 5)).append(' ');
        }
        return text.toString();
    }

    /** Loads as much of each contract into each barge as it can, so that it shows what an hour and a tier let. */
    private static void loads(Towmaster t, StringBuilder text) {
        text.append("\nloads ");
        for (int barge = 0; barge < Check.count(t, 'g'); barge++) {
            for (int contract = 0; contract < Check.count(t, 'c'); contract++) {
                for (int units = 12; units > 0; units--) {
                    try {
                        text.append(barge).append(':').append(t.load(barge, contract, units)).append(' ');
                        break;
                    } catch (IllegalStateException tooMany) {
                        continue;
                    }
                }
            }
        }
    }

    /** Lets all boats go to their goals for some hours, then to and fro, with what is shut and foggy as it is. */
    private static void journeys(Towmaster t, StringBuilder text, int boats) {
        for (int hour = 0; hour < 28 && t.all(0) < 5000; hour++) {
            for (int boat = 0; boat < boats && hour % 8 == 4; boat++) {
                text.append(t.go(boat, hour % 16 == 4 ? 7 : 0)).append(' ');
            }
            text.append('\n').append(t.pass(1)).append(Check.picture(t));
        }
    }
}
