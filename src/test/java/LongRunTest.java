/** The longest story that 512 calls can tell: six tows to and fro between both ends of the river. */
public final class LongRunTest {
    private static final int MOST_CALLS = 512;

    public static void main(String[] args) {
        Towmaster t = new Towmaster();
        int calls = setUp(t);
        boolean isUp = true;
        while (calls + 14 <= MOST_CALLS) {
            for (int boat = 0; boat < 6; boat++) {
                t.go(boat, isUp ? 7 : 0);
            }
            t.pass(isUp ? 15 : 8);
            calls += 7;
            for (int barge = 0; barge < 6; barge++) {
                Check.due("barge " + barge + " after " + calls + " calls", t.ofBarge(barge, 0), isUp ? 17 : 10);
                Check.due("the same anew", t.placeAnew(barge), isUp ? 17 : 10);
            }
            isUp = !isUp;
        }
        underWayAtLast(t, isUp);
        Check.end("LongRunTest");
    }

    private static int setUp(Towmaster t) {
        for (int section = 0; section < 7; section++) {
            t.reach(section, 1, 99, 4, false);
        }
        t.bank(0, 0, 5);
        t.bank(0, 1, 1);
        for (int boat = 0; boat < 6; boat++) {
            t.boat(1, 2, 0);
            t.fuel(boat, 999);
            t.barge(boat % 3, 0, boat / 5);
            t.couple(boat, boat);
        }
        return 7 + 2 + 6 * 4;
    }

    private static void underWayAtLast(Towmaster t, boolean isUp) {
        for (int boat = 0; boat < 6; boat++) {
            t.go(boat, isUp ? 7 : 0);
        }
        t.pass(3);
        for (int barge = 0; barge < 6; barge++) {
            Check.due("under way, barge " + barge, t.ofBarge(barge, 0), isUp ? 21 : 24);
            Check.due("the same anew", t.placeAnew(barge), isUp ? 21 : 24);
        }
    }
}
