import java.util.ArrayList;
import java.util.List;

/**
 * The document read a second time, as plainly as it can be, without a look at Towmaster: what has been is kept as
 * lists of what happened, and is counted anew whenever it is asked. PlainTest compares both.
 */
final class Plain {
    private static final class Barge {
        int type;
        int point;
        int tier;
        int boat = -1;
        int cargo;
        int contract = -1;
        int kind = -1;
    }

    private static final class Boat {
        int power;
        int hands;
        int fuel;
        int work;
        int places = 2;
        int point;
        int section = -1;
        boolean goesUp;
        int left;
        int goal = -1;
        int came;
        int told;
        int cause;
        final int[] waited = new int[10];
        final List<Integer> tow = new ArrayList<>();
    }

    private static final class Section {
        int depth = 30;
        int ice;
        boolean shut;
        boolean lock;
        int hours = 2;
        int width = 3;
        boolean bend;
        int chamber;
        int turns;
        boolean helper;
        final List<Boolean> wentUp = new ArrayList<>();
    }

    private final Section[] sections = new Section[7];
    private final int[][] room = new int[8][2];
    private final List<List<List<Integer>>> tiers = new ArrayList<>();
    private final List<Barge> barges = new ArrayList<>();
    private final List<Boat> boats = new ArrayList<>();
    private final List<int[]> contracts = new ArrayList<>();
    private final List<int[]> loads = new ArrayList<>();
    private final boolean[][] radio = new boolean[6][6];
    private int hour;
    private int stage;
    private int fall;
    private boolean fog;
    private int shifted;
    private int cleaned;
    private int fuelled;

    // What a contract is: its kind, from, to, units, till, rate, times diverted, loaded, unloaded, paid.
    private static final int KIND = 0, FROM = 1, TO = 2, UNITS = 3, TILL = 4, RATE = 5, DIVERTED = 6, LOADED = 7,
            UNLOADED = 8, PAID = 9;

    Plain() {
        for (int k = 0; k < 7; k++) {
            sections[k] = new Section();
        }
        for (int point = 0; point < 8; point++) {
            room[point][0] = 3;
            room[point][1] = 3;
            tiers.add(List.of(new ArrayList<>(), new ArrayList<>()));
        }
    }

    private static void exists(boolean... all) {
        for (boolean one : all) {
            if (!one) {
                throw new IndexOutOfBoundsException();
            }
        }
    }

    private static void allowed(boolean... all) {
        for (boolean one : all) {
            if (!one) {
                throw new IllegalArgumentException();
            }
        }
    }

    private static void possible(boolean one) {
        if (!one) {
            throw new IllegalStateException();
        }
    }

    private static boolean in(int value, int least, int most) {
        return least <= value && value <= most;
    }

    private boolean isBarge(int barge) {
        return in(barge, 0, barges.size() - 1);
    }

    private boolean isBoat(int boat) {
        return in(boat, 0, boats.size() - 1);
    }

    private boolean isContract(int contract) {
        return in(contract, 0, contracts.size() - 1);
    }

    private boolean hasBoat(int section) {
        return boats.stream().anyMatch(b -> b.section == section);
    }

    void reach(int section, int hours, int depth, int width, boolean isBend) {
        exists(in(section, 0, 6));
        allowed(in(hours, 1, 9), in(depth, 10, 99), in(width, 1, 4));
        possible(!hasBoat(section));
        Section made = new Section();
        made.ice = sections[section].ice;
        made.shut = sections[section].shut;
        made.hours = hours;
        made.depth = depth;
        made.width = width;
        made.bend = isBend;
        sections[section] = made;
    }

    void lock(int section, int chamber, int turns, boolean helper) {
        exists(in(section, 0, 6));
        allowed(in(chamber, 1, 9), in(turns, 1, 3));
        possible(!hasBoat(section));
        Section made = new Section();
        made.lock = true;
        made.ice = sections[section].ice;
        made.shut = sections[section].shut;
        made.depth = sections[section].depth;
        made.chamber = chamber;
        made.turns = turns;
        made.helper = helper;
        sections[section] = made;
    }

    int dredge(int section, int by) {
        exists(in(section, 0, 6));
        allowed(in(by, 1, 20));
        possible(sections[section].depth + by <= 99);
        return sections[section].depth += by;
    }

    int stage(int newStage, int newFall) {
        allowed(in(newStage, -30, 60), in(newFall, -9, 9));
        int before = stage;
        stage = newStage;
        fall = newFall;
        return before;
    }

    int weather(int section, int ice, boolean isShut) {
        exists(in(section, 0, 6));
        allowed(in(ice, 0, 3));
        int before = sections[section].ice;
        sections[section].ice = ice;
        sections[section].shut = isShut;
        return before;
    }

    boolean fog(boolean isSo) {
        boolean before = fog;
        fog = isSo;
        return before;
    }

    int bank(int point, int tier, int most) {
        exists(in(point, 0, 7), in(tier, 0, 1));
        allowed(in(most, 0, 5));
        possible(tiers.get(point).get(tier).size() <= most);
        int before = room[point][tier];
        room[point][tier] = most;
        return before;
    }

    int barge(int type, int point, int tier) {
        exists(in(point, 0, 7), in(tier, 0, 1));
        allowed(in(type, 0, 2));
        possible(barges.size() < 24);
        possible(tiers.get(point).get(tier).size() < room[point][tier]);
        Barge brought = new Barge();
        brought.type = type;
        barges.add(brought);
        tie(barges.size() - 1, point, tier);
        return barges.size() - 1;
    }

    private void tie(int barge, int point, int tier) {
        barges.get(barge).boat = -1;
        barges.get(barge).point = point;
        barges.get(barge).tier = tier;
        tiers.get(point).get(tier).add(barge);
    }

    int contract(int kind, int from, int to, int units, int till, int rate) {
        exists(in(from, 0, 7), in(to, 0, 7));
        allowed(in(kind, 0, 2), in(units, 1, 99), in(till, 0, 5000), in(rate, 0, 300), from != to);
        possible(contracts.size() < 12);
        contracts.add(new int[] {kind, from, to, units, till, rate, 0, 0, 0, 0});
        return contracts.size() - 1;
    }

    int divert(int contract, int to) {
        exists(isContract(contract), in(to, 0, 7));
        int[] told = contracts.get(contract);
        allowed(to != told[FROM], to != told[TO]);
        int before = told[TO];
        told[TO] = to;
        told[DIVERTED]++;
        return before;
    }

    /** How many lie outside of a barge that is tied. */
    private int outside(int barge) {
        Barge asked = barges.get(barge);
        List<Integer> tier = tiers.get(asked.point).get(asked.tier);
        return tier.size() - 1 - tier.indexOf(barge);
    }

    private boolean isOutermost(int barge, int point) {
        Barge asked = barges.get(barge);
        return asked.boat == -1 && asked.point == point && outside(barge) == 0;
    }

    int load(int barge, int contract, int units) {
        exists(isBarge(barge), isContract(contract));
        allowed(in(units, 1, 12));
        Barge filled = barges.get(barge);
        int[] told = contracts.get(contract);
        int kind = told[KIND];
        boolean[][] goesIn = {{true, true, false}, {false, true, false}, {false, false, true}};
        possible(isOutermost(barge, told[FROM]));
        possible(goesIn[kind][filled.type]);
        possible(filled.kind == -1 || filled.kind == kind);
        possible(filled.cargo == 0 || filled.contract == contract);
        possible(filled.cargo + units <= 12);
        possible(told[LOADED] + units <= told[UNITS]);
        int inThisHour = 0;
        for (int[] load : loads) {
            inThisHour += load[0] == hour && load[1] == told[FROM] ? load[2] : 0;
        }
        possible(inThisHour + units <= 12);
        loads.add(new int[] {hour, told[FROM], units});
        told[LOADED] += units;
        filled.kind = kind;
        filled.contract = contract;
        filled.cargo += units;
        return filled.cargo;
    }

    int unload(int barge) {
        exists(isBarge(barge));
        Barge emptied = barges.get(barge);
        possible(emptied.cargo > 0);
        int[] told = contracts.get(emptied.contract);
        possible(isOutermost(barge, told[TO]));
        int sum = 0;
        for (int unit = 0; unit < emptied.cargo; unit++) {
            int distance = told[TO] > told[FROM] ? told[TO] - told[FROM] : told[FROM] - told[TO];
            sum += Math.floorDiv(10 * distance * told[RATE], 100) + 5 * told[DIVERTED];
            sum -= hour > told[TILL] ? hour - told[TILL] : 0;
        }
        told[UNLOADED] += emptied.cargo;
        told[PAID] += sum;
        emptied.cargo = 0;
        return sum;
    }

    int clean(int barge) {
        exists(isBarge(barge));
        Barge told = barges.get(barge);
        possible(told.boat == -1);
        possible(told.cargo == 0);
        possible(told.kind != -1);
        int before = told.kind;
        told.kind = -1;
        cleaned++;
        return before;
    }

    int boat(int power, int hands, int point) {
        exists(in(point, 0, 7));
        allowed(in(power, 1, 9), in(hands, 1, 4));
        possible(boats.size() < 6);
        Boat brought = new Boat();
        brought.power = power;
        brought.hands = hands;
        brought.point = point;
        brought.came = hour;
        boats.add(brought);
        return boats.size() - 1;
    }

    int fuel(int boat, int units) {
        exists(isBoat(boat));
        allowed(in(units, 1, 999));
        Boat told = boats.get(boat);
        possible(told.section == -1);
        possible(told.fuel + units <= 999);
        fuelled += units;
        return told.fuel += units;
    }

    int wide(int boat, int places) {
        exists(isBoat(boat));
        allowed(in(places, 1, 4));
        Boat told = boats.get(boat);
        possible(told.tow.isEmpty());
        int before = told.places;
        told.places = places;
        return before;
    }

    /** Whether dangerous ones lie side by side in a tow, each looked at against each. */
    private boolean isDangerous(List<Integer> tow, int n) {
        for (int i = 0; i < tow.size(); i++) {
            for (int j = 0; j < tow.size(); j++) {
                int rows = Math.abs(i / n - j / n);
                int columns = Math.abs(i % n - j % n);
                Barge one = barges.get(tow.get(i));
                Barge other = barges.get(tow.get(j));
                boolean bothLaden = one.cargo > 0 && other.cargo > 0;
                if (rows + columns == 1 && bothLaden && one.type == 2 && other.type == 1) {
                    return true;
                }
            }
        }
        return false;
    }

    int couple(int boat, int barge) {
        exists(isBoat(boat), isBarge(barge));
        Boat told = boats.get(boat);
        Barge moved = barges.get(barge);
        possible(told.section == -1);
        possible(moved.boat == -1 && moved.point == told.point);
        possible(told.tow.size() < 12);
        List<Integer> then = new ArrayList<>(told.tow);
        then.add(barge);
        possible(!isDangerous(then, told.places));
        int shifts = outside(barge);
        tiers.get(moved.point).get(moved.tier).remove(Integer.valueOf(barge));
        told.tow.add(barge);
        moved.boat = boat;
        told.work += 2 + shifts;
        shifted += shifts;
        return told.tow.size();
    }

    int drop(int boat, int barge, int tier) {
        exists(isBoat(boat), isBarge(barge), in(tier, 0, 1));
        Boat told = boats.get(boat);
        possible(told.section == -1);
        possible(barges.get(barge).boat == boat);
        possible(tiers.get(told.point).get(tier).size() < room[told.point][tier]);
        List<Integer> then = new ArrayList<>(told.tow);
        then.remove(Integer.valueOf(barge));
        possible(!isDangerous(then, told.places));
        told.work += told.tow.size() - told.tow.indexOf(barge);
        told.tow.remove(Integer.valueOf(barge));
        tie(barge, told.point, tier);
        return told.tow.size();
    }

    boolean radio(int boat, int other, boolean isSo) {
        exists(isBoat(boat), isBoat(other));
        allowed(boat != other);
        boolean before = radio[boat][other];
        radio[boat][other] = isSo;
        radio[other][boat] = isSo;
        return before;
    }

    int go(int boat, int point) {
        exists(isBoat(boat), in(point, 0, 7));
        Boat told = boats.get(boat);
        int before = told.goal;
        boolean standsThere = told.section == -1 && told.point == point;
        told.goal = standsThere ? -1 : point;
        if (told.section == -1) {
            told.told = hour;
        }
        return before;
    }

    int pass(int hours) {
        allowed(in(hours, 1, 48));
        possible(hour + hours <= 5000);
        for (int k = 0; k < hours; k++) {
            anHour();
        }
        return hour;
    }

    private void anHour() {
        hour++;
        if (hour % 24 == 0) {
            stage = clamped(stage - fall);
        }
        for (Boat boat : boats) {
            boat.cause = 0;
            for (int unit = 0; unit < boat.hands && boat.work > 0; unit++) {
                boat.work--;
            }
        }
        for (int number = 0; number < boats.size(); number++) {
            travel(number);
        }
        for (int way = 0; way < 2; way++) {
            for (Boat boat : boats) {
                boolean goesDown = boat.goal < boat.point;
                if (boat.section == -1 && boat.goal != -1 && goesDown == (way == 0)) {
                    leave(boat);
                }
            }
        }
    }

    private static int clamped(int stage) {
        return stage < -30 ? -30 : stage > 60 ? 60 : stage;
    }

    private void travel(int number) {
        Boat boat = boats.get(number);
        if (boat.section == -1) {
            return;
        }
        Section section = sections[boat.section];
        if (!section.lock && section.depth + stage < draught(boat)) {
            boat.cause = 9;
            boat.waited[9]++;
            return;
        }
        boat.left--;
        if (boat.left == 0) {
            boat.point = boat.goesUp ? boat.section + 1 : boat.section;
            boat.section = -1;
            boat.came = hour;
            boat.goal = boat.goal == boat.point ? -1 : boat.goal;
            for (int other = 0; other < 6; other++) {
                radio[number][other] = false;
                radio[other][number] = false;
            }
        }
    }

    private void leave(Boat boat) {
        int cause = cause(boat);
        boat.cause = cause;
        if (cause != 0) {
            boat.waited[cause]++;
            return;
        }
        boolean isUp = boat.goal > boat.point;
        int next = nextOf(boat);
        boat.left = takes(boat, next, isUp);
        boat.fuel -= boat.power * boat.left;
        boat.section = next;
        boat.goesUp = isUp;
        sections[next].wentUp.add(isUp);
    }

    private static int nextOf(Boat boat) {
        return boat.goal > boat.point ? boat.point : boat.point - 1;
    }

    private int takes(Boat boat, int number, boolean isUp) {
        Section section = sections[number];
        int hours = section.hours * (isUp ? 2 : 1);
        if (section.lock) {
            hours = boat.tow.size() <= section.chamber ? 1 : section.helper ? 2 : 3;
        }
        return hours + section.ice;
    }

    private int weight(Boat boat) {
        return boat.tow.stream().mapToInt(barge -> barges.get(barge).cargo + 1).sum();
    }

    private int draught(Boat boat) {
        return boat.tow.stream().mapToInt(barge -> 2 * barges.get(barge).cargo + 5).filter(d -> d > 10).max().orElse(10);
    }

    private static int width(Boat boat) {
        return boat.tow.isEmpty() ? 1 : boat.tow.size() < boat.places ? boat.tow.size() : boat.places;
    }

    private int push(Boat boat, boolean isUp) {
        int most = isUp ? boat.power * 8 : boat.power * 12;
        return stage > 0 ? most - boat.power * (stage / 10) : most;
    }

    private int barOfSize(Boat boat, int number, boolean isUp) {
        Section section = sections[number];
        if (section.depth + stage < draught(boat) + 2) {
            return 3;
        }
        if (section.lock ? boat.tow.size() > 2 * section.chamber : width(boat) > section.width) {
            return 4;
        }
        return weight(boat) > push(boat, isUp) || boat.power < 2 * section.ice ? 5 : 0;
    }

    private int barAheadOfMeet(Boat boat) {
        int number = nextOf(boat);
        Section section = sections[number];
        boolean isUp = boat.goal > boat.point;
        if (boat.work > 0) {
            return 1;
        }
        if (section.shut || !section.lock && section.bend && fog && !isUp) {
            return 2;
        }
        int size = barOfSize(boat, number, isUp);
        if (size != 0) {
            return size;
        }
        return boat.fuel < boat.power * takes(boat, number, isUp) ? 6 : 0;
    }

    private int cause(Boat boat) {
        int first = barAheadOfMeet(boat);
        if (first != 0) {
            return first;
        }
        int number = nextOf(boat);
        Section section = sections[number];
        boolean isUp = boat.goal > boat.point;
        if (!section.lock) {
            for (Boat other : boats) {
                boolean isThere = other.section == number;
                boolean isTight = width(boat) + width(other) > section.width;
                boolean haveAgreed = radio[boats.indexOf(boat)][boats.indexOf(other)];
                if (isThere && (section.bend || other.goesUp != isUp && isTight && !haveAgreed)) {
                    return 7;
                }
            }
            return 0;
        }
        return hasBoat(number) || aheadOfAll(number) != boat ? 8 : 0;
    }

    private Boat aheadOfAll(int lock) {
        List<Boat> down = new ArrayList<>();
        List<Boat> up = new ArrayList<>();
        for (Boat boat : boats) {
            if (boat.section == -1 && boat.goal != -1 && nextOf(boat) == lock && barAheadOfMeet(boat) == 0) {
                (boat.goal > boat.point ? up : down).add(boat);
            }
        }
        List<Boolean> went = sections[lock].wentUp;
        boolean direction = !went.isEmpty() && went.get(went.size() - 1);
        int run = 0;
        for (int k = went.size() - 1; k >= 0 && went.get(k) == direction; k--) {
            run++;
        }
        List<Boat> same = direction ? up : down;
        List<Boat> others = direction ? down : up;
        List<Boat> ahead = run < sections[lock].turns && !same.isEmpty() ? same : !others.isEmpty() ? others : same;
        Boat first = null;
        for (Boat boat : ahead) {
            int later = Math.max(boat.came, boat.told);
            if (first == null || later < Math.max(first.came, first.told)) {
                first = boat;
            }
        }
        return first;
    }

    int water(int section, int days) {
        exists(in(section, 0, 6));
        allowed(in(days, 0, 30));
        int then = stage;
        for (int day = 0; day < days; day++) {
            then = clamped(then - fall);
        }
        return sections[section].depth + then;
    }

    int most(int boat, boolean isUp) {
        exists(isBoat(boat));
        return push(boats.get(boat), isUp);
    }

    int hours(int boat, int point) {
        exists(isBoat(boat), in(point, 0, 7));
        Boat asked = boats.get(boat);
        int at = asked.section == -1 ? asked.point : asked.goesUp ? asked.section + 1 : asked.section;
        int sum = asked.section == -1 ? 0 : asked.left;
        boolean isBarred = false;
        while (at != point) {
            boolean isUp = at < point;
            int section = isUp ? at : at - 1;
            isBarred = isBarred || barOfSize(asked, section, isUp) != 0;
            sum += takes(asked, section, isUp);
            at = isUp ? at + 1 : at - 1;
        }
        return isBarred ? -1 : sum;
    }

    int bars(int boat) {
        exists(isBoat(boat));
        Boat asked = boats.get(boat);
        return asked.section != -1 || asked.goal == -1 ? -1 : cause(asked);
    }

    int ofBoat(int boat, int what) {
        exists(isBoat(boat), in(what, 0, 10));
        Boat b = boats.get(boat);
        boolean stands = b.section == -1;
        int[] all = {stands ? b.point : -1, b.section, b.goal, b.fuel, b.work, b.tow.size(), weight(b), draught(b),
            width(b), stands ? 0 : b.left, b.cause};
        return all[what];
    }

    int waited(int boat, int cause) {
        exists(isBoat(boat), in(cause, 1, 9));
        return boats.get(boat).waited[cause];
    }

    int ofBarge(int barge, int what) {
        exists(isBarge(barge), in(what, 0, 6));
        Barge b = barges.get(barge);
        boolean isTied = b.boat == -1;
        List<Integer> row = isTied ? tiers.get(b.point).get(b.tier) : boats.get(b.boat).tow;
        int[] all = {placeAnew(barge), b.cargo, b.cargo == 0 ? -1 : b.contract, b.kind, isTied ? b.tier : -1,
            row.indexOf(barge), isTied ? outside(barge) : 0};
        return all[what];
    }

    int placeAnew(int barge) {
        exists(isBarge(barge));
        Barge b = barges.get(barge);
        if (b.boat == -1) {
            return b.point;
        }
        Boat boat = boats.get(b.boat);
        return boat.section == -1 ? 10 + boat.point : 20 + boat.section;
    }

    int shifts(int point, int set) {
        exists(in(point, 0, 7));
        allowed(set >= 0);
        List<Integer> chosen = new ArrayList<>();
        for (int bit = 0; bit < 31; bit++) {
            if ((set >> bit & 1) == 1) {
                allowed(isBarge(bit) && barges.get(bit).boat == -1 && barges.get(bit).point == point);
                chosen.add(bit);
            }
        }
        allowed(chosen.size() <= 6);
        int sum = 0;
        for (int tier = 0; tier < 2; tier++) {
            sum += leastOf(tiers.get(point).get(tier), chosen);
        }
        return sum;
    }

    /** The least of all orders in which the chosen ones of a tier may be taken away. */
    private static int leastOf(List<Integer> tier, List<Integer> chosen) {
        int least = -1;
        for (int barge : tier) {
            if (!chosen.contains(barge)) {
                continue;
            }
            List<Integer> rest = new ArrayList<>(tier);
            rest.remove(Integer.valueOf(barge));
            int sum = tier.size() - 1 - tier.indexOf(barge) + leastOf(rest, chosen);
            least = least == -1 || sum < least ? sum : least;
        }
        return least == -1 ? 0 : least;
    }

    int shiftsAnew(int point, int set) {
        return shifts(point, set);
    }

    int ofContract(int contract, int what) {
        exists(isContract(contract), in(what, 0, 5));
        int[] c = contracts.get(contract);
        int[] all = {c[UNITS] - c[LOADED], c[LOADED] - c[UNLOADED], c[UNLOADED], c[PAID], c[TO], c[DIVERTED]};
        return all[what];
    }

    int all(int what) {
        exists(in(what, 0, 6));
        int paid = contracts.stream().mapToInt(c -> c[PAID]).sum();
        int waited = boats.stream().mapToInt(b -> java.util.Arrays.stream(b.waited).sum()).sum();
        int[] all = {hour, stage, paid, 3 * shifted, 20 * cleaned, fuelled, waited};
        return all[what];
    }
}
