import java.util.ArrayList;

/** Pushed barges on a great river, told hour by hour; the document's promises say what each call does. */
public final class Towmaster {
    public static final int NONE = -1;
    public static final int OPEN = 0, COVERED = 1, TANK = 2;
    public static final int COAL = 0, GRAIN = 1, OIL = 2;
    public static final int WORK = 1, SHUT = 2, SHALLOW = 3, WIDE = 4, WEAK = 5, FUEL = 6, MEET = 7, LOCK = 8, AGROUND = 9;

    private static final int POINTS = 8;
    private static final int SECTIONS = 7;
    private static final int TIERS = 2;
    private static final int FIRST_ROOM = 3;
    private static final int MOST_BARGES = 24;
    private static final int MOST_CARGO = 12;
    private static final int MOST_LOADED_IN_HOUR = 12;
    private static final int MOST_CONTRACTS = 12;
    private static final int MOST_BOATS = 6;
    private static final int MOST_FUEL = 999;
    private static final int MOST_IN_TOW = 12;
    private static final int MOST_IN_SET = 6;
    private static final int DEEPEST = 99;
    private static final int LOWEST_STAGE = -30;
    private static final int HIGHEST_STAGE = 60;
    private static final int LAST_HOUR = 5000;
    private static final int HOURS_OF_DAY = 24;
    private static final int COST_OF_SHIFTING = 3;
    private static final int COST_OF_CLEANING = 20;
    private static final int IN_TOW_AT_POINT = 10;
    private static final int IN_TOW_IN_SECTION = 20;

    private final ArrayList<Section> sections = new ArrayList<Section>();
    private final ArrayList<Row> tiers = new ArrayList<Row>();
    private final ArrayList<Barge> barges = new ArrayList<Barge>();
    private final ArrayList<Contract> contracts = new ArrayList<Contract>();
    private final ArrayList<Boat> boats = new ArrayList<Boat>();
    private final int[] loadedInHour = new int[POINTS];
    private final Story story = new Story();
    private int hour;
    private int level;
    private int dailyFall;
    private boolean isFoggy;
    private int shiftingCost;
    private int cleaningCost;
    private int fuelCost;

    public Towmaster() {
        for (int number = 0; number < SECTIONS; number++) {
            sections.add(new Section(number));
        }
        for (int point = 0; point < POINTS; point++) {
            for (int tier = 0; tier < TIERS; tier++) {
                tiers.add(new Row(NONE, point, tier, FIRST_ROOM));
            }
        }
    }

    // ---- the river

    public void reach(int section, int hours, int depth, int width, boolean isBend)
            throws IndexOutOfBoundsException, IllegalArgumentException, IllegalStateException {
        Section changed = needSection(section);
        needWithin(hours, 1, 9);
        needWithin(depth, 10, DEEPEST);
        needWithin(width, 1, 4);
        needNoBoatIn(changed);
        changed.becomeReach(hours, depth, width, isBend);
    }

    public void lock(int section, int chamber, int turns, boolean helper)
            throws IndexOutOfBoundsException, IllegalArgumentException, IllegalStateException {
        Section changed = needSection(section);
        needWithin(chamber, 1, 9);
        needWithin(turns, 1, 3);
        needNoBoatIn(changed);
        changed.becomeLock(chamber, turns, helper);
    }

    public int dredge(int section, int by)
            throws IndexOutOfBoundsException, IllegalArgumentException, IllegalStateException {
        Section deeper = needSection(section);
        needWithin(by, 1, 20);
        needState(deeper.depth + by <= DEEPEST);
        deeper.depth += by;
        return deeper.depth;
    }

    public int stage(int stage, int fall) throws IllegalArgumentException {
        needWithin(stage, LOWEST_STAGE, HIGHEST_STAGE);
        needWithin(fall, -9, 9);
        int before = level;
        level = stage;
        dailyFall = fall;
        return before;
    }

    public int weather(int section, int ice, boolean isShut)
            throws IndexOutOfBoundsException, IllegalArgumentException {
        Section changed = needSection(section);
        needWithin(ice, 0, 3);
        int before = changed.ice;
        changed.ice = ice;
        changed.isShut = isShut;
        return before;
    }

    public boolean fog(boolean isSo) {
        boolean before = isFoggy;
        isFoggy = isSo;
        return before;
    }

    // ---- barges, banks, contracts

    public int bank(int point, int tier, int most)
            throws IndexOutOfBoundsException, IllegalArgumentException, IllegalStateException {
        Row row = needTier(point, tier);
        needWithin(most, 0, 5);
        needState(row.size() <= most);
        int before = row.room;
        row.room = most;
        return before;
    }

    public int barge(int type, int point, int tier)
            throws IndexOutOfBoundsException, IllegalArgumentException, IllegalStateException {
        Row row = needTier(point, tier);
        needWithin(type, OPEN, TANK);
        needState(barges.size() < MOST_BARGES && row.hasRoom());
        Barge brought = new Barge(barges.size(), type, row);
        barges.add(brought);
        row.append(brought);
        story.tell(Story.TIED, brought.number, point);
        return brought.number;
    }

    public int contract(int kind, int from, int to, int units, int till, int rate)
            throws IndexOutOfBoundsException, IllegalArgumentException, IllegalStateException {
        needPoint(from);
        needPoint(to);
        needWithin(kind, COAL, OIL);
        needArgument(from != to);
        needWithin(units, 1, 99);
        needWithin(till, 0, LAST_HOUR);
        needWithin(rate, 0, 300);
        needState(contracts.size() < MOST_CONTRACTS);
        Contract made = new Contract(contracts.size(), kind, from, to, units, till, rate);
        contracts.add(made);
        return made.number;
    }

    public int divert(int contract, int to) throws IndexOutOfBoundsException, IllegalArgumentException {
        Contract diverted = needContract(contract);
        needPoint(to);
        needArgument(to != diverted.from && to != diverted.to);
        int before = diverted.to;
        diverted.to = to;
        diverted.diversions++;
        return before;
    }

    public int load(int barge, int contract, int units)
            throws IndexOutOfBoundsException, IllegalArgumentException, IllegalStateException {
        Barge loaded = needBarge(barge);
        Contract deal = needContract(contract);
        needWithin(units, 1, MOST_CARGO);
        needState(loaded.isOutermostAt(deal.from) && loaded.isFitFor(deal));
        needState(loaded.cargo + units <= MOST_CARGO && units <= deal.notLoaded);
        int point = deal.from;
        if (point < 0 || point >= loadedInHour.length || loadedInHour[point] + units > MOST_LOADED_IN_HOUR) {
            throw new IllegalStateException("too many would be loaded in this hour");
        }
        loadedInHour[point] += units;
        deal.ship(units);
        loaded.cargo += units;
        loaded.deal = deal;
        loaded.usedFor = deal.kind;
        return loaded.cargo;
    }

    public int unload(int barge) throws IndexOutOfBoundsException, IllegalStateException {
        Barge emptied = needBarge(barge);
        Contract deal = emptied.deal;
        if (deal == null || !emptied.isOutermostAt(deal.to)) {
            throw new IllegalStateException("it has no cargo to unload here");
        }
        int pay = deal.deliver(emptied.cargo, hour);
        emptied.cargo = 0;
        emptied.deal = null;
        return pay;
    }

    public int clean(int barge) throws IndexOutOfBoundsException, IllegalStateException {
        Barge cleaned = needBarge(barge);
        needState(!cleaned.row.isTow() && cleaned.cargo == 0 && cleaned.usedFor != NONE);
        int before = cleaned.usedFor;
        cleaned.usedFor = NONE;
        cleaningCost += COST_OF_CLEANING;
        return before;
    }

    // ---- boats, tows, hours

    public int boat(int power, int hands, int point)
            throws IndexOutOfBoundsException, IllegalArgumentException, IllegalStateException {
        needPoint(point);
        needWithin(power, 1, 9);
        needWithin(hands, 1, 4);
        needState(boats.size() < MOST_BOATS);
        Boat brought = new Boat(boats.size(), power, hands);
        brought.standAt(point, hour);
        boats.add(brought);
        story.tell(Story.STANDS, brought.number, point);
        return brought.number;
    }

    public int fuel(int boat, int units)
            throws IndexOutOfBoundsException, IllegalArgumentException, IllegalStateException {
        Boat filled = needBoat(boat);
        needWithin(units, 1, MOST_FUEL);
        needState(!filled.isUnderWay() && filled.fuelLeft + units <= MOST_FUEL);
        filled.fuelLeft += units;
        fuelCost += units;
        return filled.fuelLeft;
    }

    public int wide(int boat, int places)
            throws IndexOutOfBoundsException, IllegalArgumentException, IllegalStateException {
        Boat told = needBoat(boat);
        needWithin(places, 1, 4);
        needState(told.tow.size() == 0);
        int before = told.tow.places;
        told.tow.places = places;
        return before;
    }

    public int couple(int boat, int barge) throws IndexOutOfBoundsException, IllegalStateException {
        Boat worker = needBoat(boat);
        Barge coupled = needBarge(barge);
        needState(!worker.isUnderWay() && coupled.isTiedAt(worker.point));
        needState(worker.tow.hasRoom() && !worker.tow.isDangerous(NONE, coupled));
        int shifted = coupled.row.behind(coupled);
        coupled.row.release(coupled);
        worker.tow.append(coupled);
        worker.work += 2 + shifted;
        shiftingCost += shifted * COST_OF_SHIFTING;
        story.tell(Story.COUPLED, coupled.number, worker.number);
        return worker.tow.size();
    }

    public int drop(int boat, int barge, int tier) throws IndexOutOfBoundsException, IllegalStateException {
        Boat worker = needBoat(boat);
        Barge dropped = needBarge(barge);
        needIndex(tier, TIERS);
        needState(!worker.isUnderWay() && dropped.row == worker.tow);
        Row row = needTier(worker.point, tier);
        needState(row.hasRoom() && !worker.tow.isDangerous(worker.tow.placeOf(dropped), null));
        worker.work += 1 + worker.tow.behind(dropped);
        worker.tow.release(dropped);
        row.append(dropped);
        story.tell(Story.TIED, dropped.number, worker.point);
        return worker.tow.size();
    }

    public boolean radio(int boat, int other, boolean isSo)
            throws IndexOutOfBoundsException, IllegalArgumentException {
        Boat one = needBoat(boat);
        Boat two = needBoat(other);
        needArgument(one != two);
        boolean before = one.agreesWith(two);
        one.agree(two, isSo);
        two.agree(one, isSo);
        return before;
    }

    public int go(int boat, int point) throws IndexOutOfBoundsException {
        Boat told = needBoat(boat);
        needPoint(point);
        int before = told.goal;
        told.goal = told.point == point ? NONE : point;
        told.since = hour;
        return before;
    }

    public int pass(int hours) throws IllegalArgumentException, IllegalStateException {
        needWithin(hours, 1, 48);
        needState(hour + hours <= LAST_HOUR);
        for (int k = 0; k < hours; k++) {
            beginHour();
            travel();
            sendOff(false);
            sendOff(true);
        }
        return hour;
    }

    // ---- what is asked

    public int water(int section, int days) throws IndexOutOfBoundsException, IllegalArgumentException {
        Section asked = needSection(section);
        needWithin(days, 0, 30);
        return asked.depth + stageIn(days);
    }

    public int most(int boat, boolean isUp) throws IndexOutOfBoundsException {
        return needBoat(boat).push(isUp, level);
    }

    public int hours(int boat, int point) throws IndexOutOfBoundsException {
        Boat asked = needBoat(boat);
        needPoint(point);
        int start = asked.isUnderWay() ? asked.pointAhead() : asked.point;
        boolean isUp = point > start;
        int total = asked.hoursLeft;
        int end = Math.max(start, point);
        for (int k = Math.max(0, Math.min(start, point)); k < end && k < sections.size(); k++) {
            Section section = sections.get(k);
            if (causeOfSize(asked, section, isUp) != 0) {
                return NONE;
            }
            total += section.hoursFor(asked.tow.size(), isUp);
        }
        return total;
    }

    public int bars(int boat) throws IndexOutOfBoundsException {
        Boat asked = needBoat(boat);
        Section next = nextOf(asked);
        return next == null ? NONE : causeFor(asked, next);
    }

    public int ofBoat(int boat, int what) throws IndexOutOfBoundsException {
        Boat asked = needBoat(boat);
        switch (what) {
            case 0: return asked.point;
            case 1: return asked.section;
            case 2: return asked.goal;
            case 3: return asked.fuelLeft;
            case 4: return asked.work;
            case 5: return asked.tow.size();
            case 6: return asked.tow.weight();
            case 7: return asked.tow.draught();
            case 8: return asked.tow.breadth();
            case 9: return asked.hoursLeft;
            case 10: return asked.latestCause;
            default: throw new IndexOutOfBoundsException("no such thing is told of a boat");
        }
    }

    public int waited(int boat, int cause) throws IndexOutOfBoundsException {
        Boat asked = needBoat(boat);
        if (cause < WORK || cause > AGROUND || cause >= asked.hoursWaited.length) {
            throw new IndexOutOfBoundsException("no such cause");
        }
        return asked.hoursWaited[cause];
    }

    public int ofBarge(int barge, int what) throws IndexOutOfBoundsException {
        Barge asked = needBarge(barge);
        Row row = asked.row;
        switch (what) {
            case 0: return whereIs(row);
            case 1: return asked.cargo;
            case 2: return asked.deal == null ? NONE : asked.deal.number;
            case 3: return asked.usedFor;
            case 4: return row.tier;
            case 5: return row.placeOf(asked);
            case 6: return row.isTow() ? 0 : row.behind(asked);
            default: throw new IndexOutOfBoundsException("no such thing is told of a barge");
        }
    }

    public int placeAnew(int barge) throws IndexOutOfBoundsException {
        Barge asked = needBarge(barge);
        int bound = story.latestOfBarge(asked.number);
        if (Story.eventOf(bound) == Story.TIED) {
            return Story.placeOf(bound);
        }
        int journey = story.latestOfBoat(Story.placeOf(bound));
        boolean stands = Story.eventOf(journey) == Story.STANDS;
        return (stands ? IN_TOW_AT_POINT : IN_TOW_IN_SECTION) + Story.placeOf(journey);
    }

    public int shifts(int point, int set) throws IndexOutOfBoundsException, IllegalArgumentException {
        needPoint(point);
        ArrayList<Barge> chosen = needTiedSet(point, set);
        int total = 0;
        // Whoever lies farther out goes first, so only those that stay are ever shifted.
        for (int k = 0; k < chosen.size(); k++) {
            Barge barge = chosen.get(k);
            total += barge.row.behindWithout(barge, set);
        }
        return total;
    }

    public int shiftsAnew(int point, int set) throws IndexOutOfBoundsException, IllegalArgumentException {
        needPoint(point);
        return fewestShifts(needTiedSet(point, set), 0, MOST_IN_SET);
    }

    public int ofContract(int contract, int what) throws IndexOutOfBoundsException {
        Contract asked = needContract(contract);
        switch (what) {
            case 0: return asked.notLoaded;
            case 1: return asked.inBarges;
            case 2: return asked.delivered;
            case 3: return asked.paid;
            case 4: return asked.to;
            case 5: return asked.diversions;
            default: throw new IndexOutOfBoundsException("no such thing is told of a contract");
        }
    }

    public int all(int what) throws IndexOutOfBoundsException {
        switch (what) {
            case 0: return hour;
            case 1: return level;
            case 2: return paidInAll();
            case 3: return shiftingCost;
            case 4: return cleaningCost;
            case 5: return fuelCost;
            case 6: return waitedInAll();
            default: throw new IndexOutOfBoundsException("no such thing is told of the whole");
        }
    }

    // ---- what a call needs, each with its exception

    private static void needArgument(boolean isRight) {
        if (!isRight) {
            throw new IllegalArgumentException("the argument is not allowed");
        }
    }

    private static void needWithin(int value, int least, int greatest) {
        if (value < least || value > greatest) {
            throw new IllegalArgumentException("the argument is out of range");
        }
    }

    private static void needState(boolean isRight) {
        if (!isRight) {
            throw new IllegalStateException("as things stand, this cannot be done");
        }
    }

    private static void needIndex(int index, int count) {
        if (index < 0 || index >= count) {
            throw new IndexOutOfBoundsException("there is no such number");
        }
    }

    private static void needPoint(int point) {
        needIndex(point, POINTS);
    }

    private Section needSection(int number) {
        if (number < 0 || number >= sections.size()) {
            throw new IndexOutOfBoundsException("there is no such section");
        }
        return sections.get(number);
    }

    private Row needTier(int point, int tier) {
        needPoint(point);
        needIndex(tier, TIERS);
        int number = point * TIERS + tier;
        if (number < 0 || number >= tiers.size()) {
            throw new IndexOutOfBoundsException("there is no such tier");
        }
        return tiers.get(number);
    }

    private Barge needBarge(int number) {
        if (number < 0 || number >= barges.size()) {
            throw new IndexOutOfBoundsException("there is no such barge");
        }
        return barges.get(number);
    }

    private Contract needContract(int number) {
        if (number < 0 || number >= contracts.size()) {
            throw new IndexOutOfBoundsException("there is no such contract");
        }
        return contracts.get(number);
    }

    private Boat needBoat(int number) {
        if (number < 0 || number >= boats.size()) {
            throw new IndexOutOfBoundsException("there is no such boat");
        }
        return boats.get(number);
    }

    private void needNoBoatIn(Section section) {
        needState(!isBusy(section));
    }

    /** The barges of a set, if each is tied at the point and they are not too many. */
    private ArrayList<Barge> needTiedSet(int point, int set) {
        needArgument(set >= 0 && Integer.bitCount(set) <= MOST_IN_SET);
        ArrayList<Barge> chosen = new ArrayList<Barge>();
        for (int k = 0; k < barges.size(); k++) {
            Barge barge = barges.get(k);
            if ((set & barge.bit()) != 0 && barge.isTiedAt(point)) {
                chosen.add(barge);
            }
        }
        needArgument(chosen.size() == Integer.bitCount(set));
        return chosen;
    }

    // ---- how an hour goes by

    private void beginHour() {
        hour++;
        if (hour % HOURS_OF_DAY == 0) {
            level = stageIn(1);
        }
        for (int point = 0; point < loadedInHour.length; point++) {
            loadedInHour[point] = 0;
        }
        for (int k = 0; k < boats.size(); k++) {
            boats.get(k).beginHour();
        }
    }

    private void travel() {
        for (int k = 0; k < boats.size(); k++) {
            Boat boat = boats.get(k);
            if (boat.section < 0 || boat.section >= sections.size()) {
                continue;
            }
            Section section = sections.get(boat.section);
            if (!section.isLock && waterOf(section) < boat.tow.draught()) {
                boat.waitFor(AGROUND);
                continue;
            }
            boat.hoursLeft--;
            if (boat.hoursLeft <= 0) {
                arrive(boat);
            }
        }
    }

    private void arrive(Boat boat) {
        boat.standAt(boat.pointAhead(), hour);
        for (int k = 0; k < boats.size(); k++) {
            Boat other = boats.get(k);
            boat.agree(other, false);
            other.agree(boat, false);
        }
        story.tell(Story.STANDS, boat.number, boat.point);
    }

    private void sendOff(boolean isUp) {
        for (int k = 0; k < boats.size(); k++) {
            Boat boat = boats.get(k);
            Section next = nextOf(boat);
            if (next == null || boat.isBoundUp() != isUp) {
                continue;
            }
            int cause = causeFor(boat, next);
            if (cause == 0) {
                enter(boat, next);
            } else {
                boat.waitFor(cause);
            }
        }
    }

    private void enter(Boat boat, Section section) {
        boolean isUp = boat.isBoundUp();
        boat.setOut(section.number, isUp, section.hoursFor(boat.tow.size(), isUp));
        section.countEntry(isUp);
        story.tell(Story.GOES, boat.number, section.number);
    }

    // ---- what lets a boat go

    /** The section that a boat would enter next; null if it goes in one, or has no goal. */
    private Section nextOf(Boat boat) {
        if (boat.isUnderWay() || boat.goal == NONE) {
            return null;
        }
        int number = boat.isBoundUp() ? boat.point : boat.point - 1;
        return number < 0 || number >= sections.size() ? null : sections.get(number);
    }

    private int causeFor(Boat boat, Section next) {
        int cause = causeAheadOfMeeting(boat, next);
        if (cause != 0) {
            return cause;
        }
        if (meetsIn(next, boat)) {
            return MEET;
        }
        boolean isLetIn = !next.isLock || !isBusy(next) && firstInto(next) == boat;
        return isLetIn ? 0 : LOCK;
    }

    private int causeAheadOfMeeting(Boat boat, Section next) {
        boolean isUp = boat.isBoundUp();
        if (boat.work > 0) {
            return WORK;
        }
        if (next.isShut || isFoggy && !isUp && next.isBend) {
            return SHUT;
        }
        int cause = causeOfSize(boat, next, isUp);
        if (cause != 0) {
            return cause;
        }
        return boat.fuelLeft < boat.power * next.hoursFor(boat.tow.size(), isUp) ? FUEL : 0;
    }

    private int causeOfSize(Boat boat, Section section, boolean isUp) {
        if (waterOf(section) < boat.tow.draught() + 2) {
            return SHALLOW;
        }
        if (section.isTooSmallFor(boat.tow)) {
            return WIDE;
        }
        boolean isWeak = boat.tow.weight() > boat.push(isUp, level) || boat.power < 2 * section.ice;
        return isWeak ? WEAK : 0;
    }

    private boolean meetsIn(Section section, Boat boat) {
        for (int k = 0; k < boats.size() && !section.isLock; k++) {
            Boat other = boats.get(k);
            if (other.section != section.number) {
                continue;
            }
            boolean isOncoming = other.isGoingUp != boat.isBoundUp();
            boolean isTight = other.tow.breadth() + boat.tow.breadth() > section.width;
            if (section.isBend || isOncoming && isTight && !boat.agreesWith(other)) {
                return true;
            }
        }
        return false;
    }

    private boolean isBusy(Section section) {
        for (int k = 0; k < boats.size(); k++) {
            if (boats.get(k).section == section.number) {
                return true;
            }
        }
        return false;
    }

    /** The boat that goes ahead of all others that wait at a lock; null if none waits. */
    private Boat firstInto(Section lock) {
        Boat former = null;
        Boat opposite = null;
        for (int k = 0; k < boats.size(); k++) {
            Boat boat = boats.get(k);
            if (nextOf(boat) != lock || causeAheadOfMeeting(boat, lock) != 0) {
                continue;
            }
            if (boat.isBoundUp() == lock.isTurnUp) {
                former = boat.earlierOf(former);
            } else {
                opposite = boat.earlierOf(opposite);
            }
        }
        boolean isTurnOver = former == null || lock.entriesOfTurn >= lock.turns;
        return isTurnOver && opposite != null ? opposite : former;
    }

    // ---- sums and places

    private int stageIn(int days) {
        int stage = level - days * dailyFall;
        return Math.max(LOWEST_STAGE, Math.min(HIGHEST_STAGE, stage));
    }

    private int waterOf(Section section) {
        return section.depth + level;
    }

    private int whereIs(Row row) {
        if (row.boat < 0 || row.boat >= boats.size()) {
            return row.point;
        }
        Boat boat = boats.get(row.boat);
        return boat.isUnderWay() ? IN_TOW_IN_SECTION + boat.section : IN_TOW_AT_POINT + boat.point;
    }

    /** The least of all orders; taken says as bits which have been coupled already. */
    private static int fewestShifts(ArrayList<Barge> chosen, int taken, int deepest) {
        int fewest = NONE;
        for (int k = 0; k < chosen.size() && deepest > 0; k++) {
            Barge next = chosen.get(k);
            if ((taken & next.bit()) != 0) {
                continue;
            }
            int rest = fewestShifts(chosen, taken | next.bit(), deepest - 1);
            int total = next.row.behindWithout(next, taken) + rest;
            fewest = fewest == NONE ? total : Math.min(fewest, total);
        }
        return fewest == NONE ? 0 : fewest;
    }

    private int paidInAll() {
        int total = 0;
        for (int k = 0; k < contracts.size(); k++) {
            total += contracts.get(k).paid;
        }
        return total;
    }

    private int waitedInAll() {
        int total = 0;
        for (int k = 0; k < boats.size(); k++) {
            int[] hoursWaited = boats.get(k).hoursWaited;
            for (int cause = 0; cause < hoursWaited.length; cause++) {
                total += hoursWaited[cause];
            }
        }
        return total;
    }

    private static final class Section {
        final int number;
        int depth = 30;
        int ice;
        boolean isShut;
        boolean isLock;
        int hours = 2;
        int width = 3;
        boolean isBend;
        int chamber;
        int turns;
        boolean hasHelper;
        boolean isTurnUp;
        int entriesOfTurn;

        Section(int number) {
            this.number = number;
        }

        void becomeReach(int newHours, int newDepth, int newWidth, boolean willBend) {
            isLock = false;
            hours = newHours;
            depth = newDepth;
            width = newWidth;
            isBend = willBend;
        }

        void becomeLock(int newChamber, int newTurns, boolean willHaveHelper) {
            isLock = true;
            isBend = false;
            chamber = newChamber;
            turns = newTurns;
            hasHelper = willHaveHelper;
            isTurnUp = false;
            entriesOfTurn = 0;
        }

        void countEntry(boolean isUp) {
            entriesOfTurn = isUp == isTurnUp ? entriesOfTurn + 1 : 1;
            isTurnUp = isUp;
        }

        boolean isTooSmallFor(Row tow) {
            return isLock ? tow.size() > 2 * chamber : tow.breadth() > width;
        }

        int hoursFor(int bargeCount, boolean isUp) {
            if (!isLock) {
                return ice + (isUp ? 2 * hours : hours);
            }
            if (bargeCount <= chamber) {
                return ice + 1;
            }
            return ice + (hasHelper ? 2 : 3);
        }
    }

    private static final class Barge {
        final int number;
        final int type;
        Row row;
        int cargo;
        Contract deal;
        int usedFor = NONE;

        Barge(int number, int type, Row row) {
            this.number = number;
            this.type = type;
            this.row = row;
        }

        int bit() {
            return 1 << number;
        }

        boolean isTiedAt(int point) {
            return !row.isTow() && row.point == point;
        }

        boolean isOutermostAt(int point) {
            return isTiedAt(point) && row.behind(this) == 0;
        }

        boolean isFitFor(Contract other) {
            return isTypeFor(other.kind) && (usedFor == NONE || usedFor == other.kind)
                    && (deal == null || deal == other);
        }

        private boolean isTypeFor(int kind) {
            if (kind == OIL) {
                return type == TANK;
            }
            return type == COVERED || type == OPEN && kind == COAL;
        }

        boolean isDangerousBeside(Barge other) {
            if (other == null || cargo == 0 || other.cargo == 0) {
                return false;
            }
            return type == TANK && other.type == COVERED || type == COVERED && other.type == TANK;
        }
    }

    /** Barges one behind the other: a tier of a point, or the tow of a boat. */
    private static final class Row {
        final int boat;
        final int point;
        final int tier;
        int room;
        int places = 2;
        private final ArrayList<Barge> barges = new ArrayList<Barge>();

        Row(int boat, int point, int tier, int room) {
            this.boat = boat;
            this.point = point;
            this.tier = tier;
            this.room = room;
        }

        boolean isTow() {
            return boat != NONE;
        }

        int size() {
            return barges.size();
        }

        boolean hasRoom() {
            return barges.size() < room;
        }

        int placeOf(Barge barge) {
            for (int k = 0; k < barges.size(); k++) {
                if (barges.get(k) == barge) {
                    return k;
                }
            }
            return NONE;
        }

        /** How many came into the row later than one that is in it. */
        int behind(Barge barge) {
            return behindWithout(barge, 0);
        }

        int behindWithout(Barge barge, int away) {
            int count = 0;
            for (int k = placeOf(barge) + 1; k < barges.size(); k++) {
                if ((away & barges.get(k).bit()) == 0) {
                    count++;
                }
            }
            return count;
        }

        void append(Barge barge) {
            barges.add(barge);
            barge.row = this;
        }

        void release(Barge barge) {
            int place = placeOf(barge);
            if (place >= 0 && place < barges.size()) {
                barges.remove(place);
            }
        }

        int weight() {
            int total = 0;
            for (int k = 0; k < barges.size(); k++) {
                total += 1 + barges.get(k).cargo;
            }
            return total;
        }

        int draught() {
            int deepest = 10;
            for (int k = 0; k < barges.size(); k++) {
                deepest = Math.max(deepest, 5 + 2 * barges.get(k).cargo);
            }
            return deepest;
        }

        int breadth() {
            return Math.max(1, Math.min(places, barges.size()));
        }

        /** Whether dangerous ones would lie side by side, were one place left out, and one more at the end. */
        boolean isDangerous(int leftOut, Barge more) {
            if (places < 1) {
                return false;
            }
            for (int k = 0; k <= barges.size(); k++) {
                Barge barge = seenAt(k, leftOut, more);
                if (barge == null) {
                    continue;
                }
                boolean endsItsRow = (k + 1) % places == 0;
                if (barge.isDangerousBeside(seenAt(k + places, leftOut, more))
                        || !endsItsRow && barge.isDangerousBeside(seenAt(k + 1, leftOut, more))) {
                    return true;
                }
            }
            return false;
        }

        private Barge seenAt(int place, int leftOut, Barge more) {
            int k = leftOut != NONE && place >= leftOut ? place + 1 : place;
            if (k == barges.size()) {
                return more;
            }
            return k < 0 || k >= barges.size() ? null : barges.get(k);
        }
    }

    private static final class Boat {
        final int number;
        final int power;
        final int hands;
        final Row tow;
        int fuelLeft;
        int work;
        int point = NONE;
        int section = NONE;
        boolean isGoingUp;
        int hoursLeft;
        int goal = NONE;
        int since;
        int agreed;
        int latestCause;
        final int[] hoursWaited = new int[AGROUND + 1];

        Boat(int number, int power, int hands) {
            this.number = number;
            this.power = power;
            this.hands = hands;
            this.tow = new Row(number, NONE, NONE, MOST_IN_TOW);
        }

        boolean isUnderWay() {
            return section != NONE;
        }

        boolean isBoundUp() {
            return goal > point;
        }

        int pointAhead() {
            return isGoingUp ? section + 1 : section;
        }

        int push(boolean isUp, int stage) {
            int loss = stage > 0 ? stage / 10 : 0;
            return power * (isUp ? 8 : 12) - power * loss;
        }

        void beginHour() {
            work -= Math.min(work, hands);
            latestCause = 0;
        }

        void waitFor(int cause) {
            latestCause = cause;
            if (cause >= 0 && cause < hoursWaited.length) {
                hoursWaited[cause]++;
            }
        }

        void standAt(int reached, int hour) {
            point = reached;
            section = NONE;
            hoursLeft = 0;
            since = hour;
            if (goal == reached) {
                goal = NONE;
            }
        }

        void setOut(int entered, boolean isUp, int hours) {
            fuelLeft -= power * hours;
            point = NONE;
            section = entered;
            isGoingUp = isUp;
            hoursLeft = hours;
        }

        boolean agreesWith(Boat other) {
            return (agreed & 1 << other.number) != 0;
        }

        void agree(Boat other, boolean isSo) {
            int bit = 1 << other.number;
            agreed = isSo ? agreed | bit : agreed & ~bit;
        }

        /** Which of both goes first into a lock; of two of one hour the other, whose number is lower. */
        Boat earlierOf(Boat other) {
            return other == null || since < other.since ? this : other;
        }
    }

    private static final class Contract {
        final int number;
        final int kind;
        final int from;
        int to;
        int notLoaded;
        final int till;
        final int rate;
        int inBarges;
        int delivered;
        int paid;
        int diversions;

        Contract(int number, int kind, int from, int to, int units, int till, int rate) {
            this.number = number;
            this.kind = kind;
            this.from = from;
            this.to = to;
            this.notLoaded = units;
            this.till = till;
            this.rate = rate;
        }

        void ship(int units) {
            notLoaded -= units;
            inBarges += units;
        }

        int deliver(int units, int hour) {
            int late = Math.max(0, hour - till);
            int pay = units * (10 * Math.abs(to - from) * rate / 100 + 5 * diversions - late);
            inBarges -= units;
            delivered += units;
            paid += pay;
            return pay;
        }
    }

    /** All that happened to the places of barges and boats, from which these can be redone. */
    private static final class Story {
        static final int TIED = 0;
        static final int COUPLED = 1;
        static final int STANDS = 2;
        static final int GOES = 3;

        // A goal is at most 7 sections away, each entered and left once: 512 calls tell fewer notes than this.
        private static final int MOST_NOTES = 8192;

        private final Page first = new Page();
        private Page last = first;
        private int noteCount;

        void tell(int event, int who, int place) {
            if (noteCount >= MOST_NOTES) {
                return;
            }
            if (last.isFull()) {
                Page page = new Page();
                last.next = page;
                last = page;
            }
            last.write(event << 16 | who << 8 | place);
            noteCount++;
        }

        static int eventOf(int note) {
            return note >> 16;
        }

        static int placeOf(int note) {
            return note & 255;
        }

        int latestOfBarge(int number) {
            return latestOf(TIED, COUPLED, number);
        }

        int latestOfBoat(int number) {
            return latestOf(STANDS, GOES, number);
        }

        private int latestOf(int oneEvent, int otherEvent, int who) {
            int latest = 0;
            for (Page page = first; page != null; page = page.next) {
                for (int k = 0; k < page.used && k < page.notes.length; k++) {
                    int note = page.notes[k];
                    boolean isWanted = eventOf(note) == oneEvent || eventOf(note) == otherEvent;
                    if (isWanted && (note >> 8 & 255) == who) {
                        latest = note;
                    }
                }
            }
            return latest;
        }
    }

    private static final class Page {
        private static final int LENGTH = 64;

        final int[] notes = new int[LENGTH];
        int used;
        Page next;

        boolean isFull() {
            return used >= notes.length;
        }

        void write(int note) {
            if (used >= 0 && used < notes.length) {
                notes[used] = note;
                used++;
            }
        }
    }
}
