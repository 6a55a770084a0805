/** What all tests use: each wrong answer is printed, and any at all makes the test fail. */
final class Check {
    private static int wrong;
    private static int asked;

    private Check() {
    }

    static void due(String what, long got, long want) {
        asked++;
        if (got != want) {
            fail(what + " answered " + got + ", due is " + want);
        }
    }

    static void due(String what, boolean got, boolean want) {
        asked++;
        if (got != want) {
            fail(what + " answered " + got + ", due is " + want);
        }
    }

    static void due(String what, String got, String want) {
        asked++;
        if (!got.equals(want)) {
            fail(what + " answered " + got + ", due is " + want);
        }
    }

    static void fail(String what) {
        wrong++;
        System.out.println(what);
    }

    static void noSuch(Towmaster t, String what, Runnable call) {
        refused(t, IndexOutOfBoundsException.class, what, call);
    }

    static void notAllowed(Towmaster t, String what, Runnable call) {
        refused(t, IllegalArgumentException.class, what, call);
    }

    static void notNow(Towmaster t, String what, Runnable call) {
        refused(t, IllegalStateException.class, what, call);
    }

    private static void refused(Towmaster t, Class<?> due, String what, Runnable call) {
        asked++;
        String before = picture(t);
        try {
            call.run();
            fail(what + " was answered, due is " + due.getName());
        } catch (RuntimeException thrown) {
            if (thrown.getClass() != due || !isThrownByTowmaster(thrown)) {
                fail(what + " threw " + thrown + ", due is " + due.getName());
            }
        }
        if (!picture(t).equals(before)) {
            fail(what + " changed what it should have left alone");
        }
    }

    /** What the machine throws is of other classes; what the library throws begins in the library. */
    static boolean isThrownByTowmaster(Throwable thrown) {
        StackTraceElement[] trace = thrown.getStackTrace();
        return trace.length > 0 && trace[0].getClassName().startsWith("Towmaster")
                && (thrown.getClass() == IndexOutOfBoundsException.class
                || thrown.getClass() == IllegalArgumentException.class
                || thrown.getClass() == IllegalStateException.class);
    }

    /** All that can be asked of an object without changing it. */
    static String picture(Towmaster t) {
        StringBuilder text = new StringBuilder();
        for (int section = 0; section < 7; section++) {
            text.append(t.water(section, 0)).append(' ').append(t.water(section, 1)).append('\n');
        }
        for (int what = 0; what < 7; what++) {
            text.append(t.all(what)).append(' ');
        }
        for (int boat = 0; boat < count(t, 'b'); boat++) {
            text.append("\nboat ").append(t.bars(boat)).append(' ');
            for (int what = 0; what <= 10; what++) {
                text.append(t.ofBoat(boat, what)).append(' ');
            }
            for (int cause = Towmaster.WORK; cause <= Towmaster.AGROUND; cause++) {
                text.append(t.waited(boat, cause)).append(' ');
            }
            for (int point = 0; point < 8; point++) {
                text.append(t.hours(boat, point)).append(' ');
            }
            text.append(t.most(boat, true)).append(' ').append(t.most(boat, false));
        }
        for (int barge = 0; barge < count(t, 'g'); barge++) {
            text.append("\nbarge ").append(t.placeAnew(barge)).append(' ');
            for (int what = 0; what <= 6; what++) {
                text.append(t.ofBarge(barge, what)).append(' ');
            }
        }
        for (int contract = 0; contract < count(t, 'c'); contract++) {
            text.append("\ncontract ");
            for (int what = 0; what <= 5; what++) {
                text.append(t.ofContract(contract, what)).append(' ');
            }
        }
        return text.toString();
    }

    /** How many boats, barges (g) or contracts an object has, found by asking for one more each time. */
    static int count(Towmaster t, char kind) {
        int count = 0;
        try {
            for (; count < 100; count++) {
                if (kind == 'b') {
                    t.ofBoat(count, 0);
                } else if (kind == 'g') {
                    t.ofBarge(count, 0);
                } else {
                    t.ofContract(count, 0);
                }
            }
        } catch (IndexOutOfBoundsException over) {
            return count;
        }
        return count;
    }

    static void end(String test) {
        System.out.println(test + ": " + asked + " checks, " + wrong + " wrong");
        if (wrong != 0) {
            System.exit(1);
        }
    }
}
