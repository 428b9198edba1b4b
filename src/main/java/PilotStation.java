import java.util.ArrayList;

/**
 * A station that sends pilots to ships by turns. The words in capitals in comments
 * (LIST, POST, END ..) are the terms of the document that this class keeps to.
 */
public final class PilotStation {
    public static final int NONE = -1;

    private static final int LAST_HOUR = 9599;
    private static final int DAYS = 400;
    private static final int CLOCKS = 24;
    private static final int ALL_CLOCKS = (1 << CLOCKS) - 1;
    private static final int MOST_PILOTS = 60;
    private static final int MOST_SHIPS = 400;
    private static final int MOST_BOATS = 12;
    private static final int MOST_SEATS = 20;
    private static final int MOST_LENGTH = 400;
    private static final int MOST_DRAUGHT = 200;
    private static final int MOST_ROAD = 5;
    private static final int MOST_REST = 48;
    private static final int MOST_ASKED_KEPT = 300;

    private static final int KIND_PILOT = 0;
    private static final int KIND_SENIOR = 1;
    private static final int KIND_LEARNER = 2;
    private static final int KIND_SECOND = 3;
    private static final int KIND_RETIRED = 4;

    private static final int WANTS_TWO = -2;

    private static final int AT_STATION = 0;
    private static final int AT_POST = 1;
    private static final int ABOARD = 2;
    private static final int ON_ROAD = 3;

    private static final int WAITS = 0;
    private static final int LED = 1;
    private static final int ENDED = 2;
    private static final int TURNED_BACK = 3;

    /** The what of look() and of craft() that count() adds up. */
    private static final int LOOK_TURNS = 5;
    private static final int LOOK_HOURS_LED = 6;
    private static final int CRAFT_TIDE_HOURS = 5;
    private static final int CRAFT_PILOT_HOURS = 6;
    private static final int CRAFT_BOAT_HOURS = 7;

    private static final int AGAINST_NOTHING = 0;
    private static final int AGAINST_LICENCE = 1;
    private static final int AGAINST_DAY_OFF = 2;
    private static final int AGAINST_PLACE = 3;
    private static final int AGAINST_WILL = 4;
    private static final int AGAINST_NOT_LISTED = 5;

    private final ArrayList<Pilot> pilots;
    private final ArrayList<Ship> ships;
    /** The same ships in the order in which they are sent: it never changes for two of them. */
    private final ArrayList<Ship> shipsByLength;
    private final Tides tides;
    private final Boats boats;
    private final RestRule restRule;
    private final Roster roster;
    private final Roster keptRoster;
    private final Roster rosterAsItWas;
    private final AskedLog askedLog;
    private int now;
    private int roadHours;
    /** SEATS OUT of NOW that nobody has yet, while an hour() sends ships. */
    private int seatsLeft;
    /** Whether somebody asked for the ship that is being sent stood at the STATION without a seat. */
    private boolean seatLacked;
    private boolean canUndo;

    public PilotStation() {
        pilots = new ArrayList<Pilot>();
        ships = new ArrayList<Ship>();
        shipsByLength = new ArrayList<Ship>();
        tides = new Tides();
        boats = new Boats();
        restRule = new RestRule();
        roster = new Roster();
        keptRoster = new Roster();
        rosterAsItWas = new Roster();
        askedLog = new AskedLog();
        now = 0;
        roadHours = 1;
        seatsLeft = 0;
        seatLacked = false;
        canUndo = false;
    }

    public int pilot(int kind, int length, int draught) throws IllegalArgumentException, UnsupportedOperationException {
        if (!within(kind, KIND_PILOT, KIND_RETIRED)) {
            throw new IllegalArgumentException("no such KIND");
        }
        if (!within(length, 0, MOST_LENGTH) || !within(draught, 0, MOST_DRAUGHT)) {
            throw new IllegalArgumentException("no such LICENCE");
        }
        if (pilots.size() >= MOST_PILOTS) {
            throw new UnsupportedOperationException("there are 60 PILOTS");
        }
        canUndo = false;
        Pilot added = new Pilot(pilots.size(), kind, length, draught);
        pilots.add(added);
        roster.append(added);
        return added.number;
    }

    public int ship(boolean in, int length, int draught, int hour, int wants, boolean learner)
            throws IllegalArgumentException, IndexOutOfBoundsException, UnsupportedOperationException {
        if (!within(length, 1, MOST_LENGTH) || !within(draught, 1, MOST_DRAUGHT)) {
            throw new IllegalArgumentException("no such LENGTH or DRAUGHT");
        }
        if (!within(hour, 0, LAST_HOUR)) {
            throw new IllegalArgumentException("no such HOUR");
        }
        if (wants < WANTS_TWO) {
            throw new IllegalArgumentException("no such WANTS");
        }
        if (wants >= pilots.size()) {
            throw new IndexOutOfBoundsException("it wants a PILOT that there is not");
        }
        if (ships.size() >= MOST_SHIPS) {
            throw new UnsupportedOperationException("there are 400 SHIPS");
        }
        canUndo = false;
        Ship added = new Ship(ships.size(), in, length, draught, hour, wants, learner);
        ships.add(added);
        shipsByLength.add(placeByLength(length), added);
        return added.number;
    }

    public int tide(int day, int draught)
            throws IndexOutOfBoundsException, IllegalArgumentException, UnsupportedOperationException {
        if (!isDay(day)) {
            throw new IndexOutOfBoundsException("no such DAY");
        }
        if (!within(draught, 0, MOST_DRAUGHT)) {
            throw new IllegalArgumentException("no such DRAUGHT");
        }
        if (tides.toldOn(day) >= CLOCKS) {
            throw new UnsupportedOperationException("the row has 24 DRAUGHTS");
        }
        canUndo = false;
        tides.tell(day, draught);
        return tides.toldOn(day);
    }

    public boolean tear(int day) throws IndexOutOfBoundsException {
        if (!isDay(day)) {
            throw new IndexOutOfBoundsException("no such DAY");
        }
        canUndo = false;
        boolean hadRow = tides.toldOn(day) > 0;
        tides.forget(day);
        return hadRow;
    }

    public int boat(int clocks, int seats) throws IllegalArgumentException, UnsupportedOperationException {
        if (!within(clocks, 0, ALL_CLOCKS) || !within(seats, 1, MOST_SEATS)) {
            throw new IllegalArgumentException("no such CLOCKS or SEATS");
        }
        if (boats.number >= MOST_BOATS) {
            throw new UnsupportedOperationException("there are 12 BOATS");
        }
        canUndo = false;
        boats.addBoat(clocks, seats);
        return boats.number - 1;
    }

    public void road(int hours) throws IllegalArgumentException {
        if (!within(hours, 0, MOST_ROAD)) {
            throw new IllegalArgumentException("no such ROAD");
        }
        canUndo = false;
        roadHours = hours;
    }

    public void rest(int base, int nights, int twice) throws IllegalArgumentException {
        if (!within(base, 0, MOST_REST) || !within(nights, 0, MOST_REST) || !within(twice, 0, MOST_REST)) {
            throw new IllegalArgumentException("no such REST");
        }
        canUndo = false;
        restRule.set(base, nights, twice);
    }

    public boolean off(int pilot, int day, boolean on) throws IndexOutOfBoundsException {
        Pilot changed = pilotNumbered(pilot);
        if (!isDay(day)) {
            throw new IndexOutOfBoundsException("no such DAY");
        }
        canUndo = false;
        return changed.setOff(day, on);
    }

    public boolean will(int pilot, boolean on) throws IndexOutOfBoundsException {
        Pilot changed = pilotNumbered(pilot);
        canUndo = false;
        boolean other = changed.willing != on;
        changed.willing = on;
        return other;
    }

    public int hour() {
        if (now >= LAST_HOUR) {
            return NONE;
        }
        keepState();
        askedLog.clear();
        roster.markPlaces();
        int went = sendShips(now + 1);
        bringBackFromPost();
        now = now + 1;
        endShips();
        endRoads();
        listTheRested();
        return went;
    }

    public boolean back(int ship) throws IndexOutOfBoundsException {
        Ship turning = shipNumbered(ship);
        Trip trip = turning.trip;
        if (!wentJustNow(trip)) {
            return false;
        }
        // The lesser place first, as the document asks: no two of them had the same one.
        for (int place = 0; place < MOST_PILOTS; place++) {
            Pilot pilot = trip.aboardFromPlace(place);
            if (pilot != null) {
                pilot.duty.stayAt(turning.in ? AT_POST : AT_STATION, now);
                roster.insert(pilot, place);
            }
        }
        trip.turnBack();
        return true;
    }

    public boolean swap(int ship, int other) throws IndexOutOfBoundsException {
        Ship one = shipNumbered(ship);
        Ship two = shipNumbered(other);
        if (ship == other || one.in != two.in || !canGiveLeader(one.trip) || !canGiveLeader(two.trip)) {
            return false;
        }
        Pilot ofOne = one.trip.leader;
        Pilot ofTwo = two.trip.leader;
        if (ofOne == null || ofTwo == null || !ofOne.mayLead(two) || !ofTwo.mayLead(one)) {
            return false;
        }
        one.trip.leader = ofTwo;
        two.trip.leader = ofOne;
        ofOne.duty.goAboard(two);
        ofTwo.duty.goAboard(one);
        return true;
    }

    public boolean undo() {
        if (!canUndo) {
            return false;
        }
        canUndo = false;
        now = now - 1;
        for (int i = 0; i < pilots.size(); i++) {
            pilots.get(i).duty.copyFrom(pilots.get(i).keptDuty);
        }
        for (int i = 0; i < ships.size(); i++) {
            ships.get(i).trip.copyFrom(ships.get(i).keptTrip);
        }
        roster.copyFrom(keptRoster);
        askedLog.clear();
        return true;
    }

    public boolean may(int pilot, int ship) throws IndexOutOfBoundsException {
        Pilot leader = pilotNumbered(pilot);
        return leader.mayLead(shipNumbered(ship));
    }

    public boolean window(int ship, int hour) throws IndexOutOfBoundsException {
        return tides.letThrough(shipNumbered(ship).draught, hour);
    }

    public int seats(int hour, boolean out) {
        if (!within(hour, 0, LAST_HOUR)) {
            return 0;
        }
        return out ? boats.seatsOut(hour) : boats.seatsBack(hour);
    }

    public int list(int k) {
        return numberOf(roster.at(k));
    }

    public int asked(int i, int what) {
        return askedLog.read(i, what);
    }

    public int look(int pilot, int what) throws IndexOutOfBoundsException, IllegalArgumentException {
        Pilot seen = pilotNumbered(pilot);
        switch (what) {
            case 0: return seen.kind;
            case 1: return seen.length;
            case 2: return seen.draught;
            case 3: return seen.duty.where;
            case 4: return seen.duty.restedFrom;
            case LOOK_TURNS: return seen.duty.turns;
            case LOOK_HOURS_LED: return seen.duty.hoursLed;
            case 7: return roster.placeOf(seen);
            case 8: return seen.duty.aboard == null ? NONE : seen.duty.aboard.number;
            case 9: return seen.willing ? 1 : 0;
            case 10: return seen.daysOff;
            default: throw new IllegalArgumentException("no such what");
        }
    }

    public int craft(int ship, int what) throws IndexOutOfBoundsException, IllegalArgumentException {
        Ship seen = shipNumbered(ship);
        switch (what) {
            case 0: return seen.trip.state;
            case 1: return seen.trip.wentAt;
            case 2: return numberOf(seen.trip.leader);
            case 3: return numberOf(seen.trip.second);
            case 4: return numberOf(seen.trip.learner);
            case CRAFT_TIDE_HOURS: return seen.trip.tideHours;
            case CRAFT_PILOT_HOURS: return seen.trip.pilotHours;
            case CRAFT_BOAT_HOURS: return seen.trip.boatHours;
            case 8: return seen.length;
            case 9: return seen.draught;
            default: throw new IllegalArgumentException("no such what");
        }
    }

    public int fair() {
        int greatest = 0;
        for (int i = 0; i < pilots.size(); i++) {
            for (int j = i + 1; j < pilots.size(); j++) {
                if (pilots.get(i).isLike(pilots.get(j))) {
                    int difference = pilots.get(i).duty.turns - pilots.get(j).duty.turns;
                    greatest = Math.max(greatest, Math.abs(difference));
                }
            }
        }
        return greatest;
    }

    public int count(int what) {
        switch (what) {
            case 0: return now;
            case 1: return pilots.size();
            case 2: return ships.size();
            case 3: return boats.number;
            case 4: return shipsThat(WAITS);
            case 5: return shipsThat(LED);
            case 6: return shipsThat(ENDED);
            case 7: return shipsThat(TURNED_BACK);
            case 8: return sumOfLooks(LOOK_TURNS);
            case 9: return sumOfLooks(LOOK_HOURS_LED);
            case 10: return roster.length();
            case 11: return sumOfCrafts(CRAFT_TIDE_HOURS);
            case 12: return sumOfCrafts(CRAFT_PILOT_HOURS);
            case 13: return sumOfCrafts(CRAFT_BOAT_HOURS);
            case 14: return askedLog.all;
            default: return NONE;
        }
    }

    private static boolean within(int value, int least, int most) {
        return value >= least && value <= most;
    }

    private static boolean isDay(int day) {
        return within(day, 0, DAYS - 1);
    }

    private static boolean isNight(int hour) {
        int clock = hour % CLOCKS;
        return clock < 6 || clock > 21;
    }

    private static int numberOf(Pilot pilot) {
        return pilot == null ? NONE : pilot.number;
    }

    private Pilot pilotNumbered(int number) {
        if (number < 0 || number >= pilots.size()) {
            throw new IndexOutOfBoundsException("no such PILOT");
        }
        return pilots.get(number);
    }

    private Ship shipNumbered(int number) {
        if (number < 0 || number >= ships.size()) {
            throw new IndexOutOfBoundsException("no such SHIP");
        }
        return ships.get(number);
    }

    /** Behind all ships of the same LENGTH, for those have lesser numbers. */
    private int placeByLength(int length) {
        int place = 0;
        while (place < shipsByLength.size() && shipsByLength.get(place).length >= length) {
            place++;
        }
        return place;
    }

    private void keepState() {
        for (int i = 0; i < pilots.size(); i++) {
            pilots.get(i).keptDuty.copyFrom(pilots.get(i).duty);
        }
        for (int i = 0; i < ships.size(); i++) {
            ships.get(i).keptTrip.copyFrom(ships.get(i).trip);
        }
        keptRoster.copyFrom(roster);
        canUndo = true;
    }

    private int sendShips(int at) {
        int went = 0;
        seatsLeft = boats.seatsOut(now);
        for (int i = 0; i < shipsByLength.size(); i++) {
            Ship ship = shipsByLength.get(i);
            if (ship.trip.state == WAITS && ship.hour <= at && goes(ship, at)) {
                went++;
            }
        }
        return went;
    }

    private boolean goes(Ship ship, int at) {
        if (!tides.letThrough(ship.draught, at)) {
            ship.trip.tideHours++;
            return false;
        }
        seatLacked = false;
        Pilot leader = ship.wants >= 0 ? askTheToldOne(ship, at) : seek(ship, null, at);
        Pilot second = null;
        if (leader != null && ship.wants == WANTS_TWO) {
            second = seek(ship, leader, at);
        }
        if (leader == null || (ship.wants == WANTS_TWO && second == null)) {
            keepWaitingForSomebody(ship);
            return false;
        }
        depart(ship, leader, second, at);
        return true;
    }

    private void keepWaitingForSomebody(Ship ship) {
        if (seatLacked) {
            ship.trip.boatHours++;
        } else {
            ship.trip.pilotHours++;
        }
    }

    private Pilot askTheToldOne(Ship ship, int at) {
        Pilot told = pilotNumbered(ship.wants);
        if (roster.placeOf(told) == NONE) {
            askedLog.add(ship.number, told.number, AGAINST_NOT_LISTED);
            return null;
        }
        return agrees(ship, told, seatsLeft, at) ? told : null;
    }

    private Pilot seek(Ship ship, Pilot leader, int at) {
        int seats = seatsLeft;
        if (leader != null && needsSeat(ship, leader)) {
            seats--;
        }
        // Gone over as it is now: the unwilling go to the end of the LIST on the way.
        rosterAsItWas.copyFrom(roster);
        for (int i = 0; i < rosterAsItWas.length(); i++) {
            Pilot pilot = rosterAsItWas.at(i);
            if (pilot != null && pilot != leader && agrees(ship, pilot, seats, at)) {
                return pilot;
            }
        }
        return null;
    }

    private boolean agrees(Ship ship, Pilot pilot, int seats, int at) {
        int against = against(ship, pilot, seats, at);
        askedLog.add(ship.number, pilot.number, against);
        if (against == AGAINST_PLACE && needsSeat(ship, pilot)) {
            seatLacked = true;
        }
        if (against == AGAINST_WILL) {
            roster.moveToEnd(pilot);
        }
        return against == AGAINST_NOTHING;
    }

    private static int against(Ship ship, Pilot pilot, int seats, int at) {
        if (!pilot.mayLead(ship)) {
            return AGAINST_LICENCE;
        }
        if (pilot.isOff(at / CLOCKS)) {
            return AGAINST_DAY_OFF;
        }
        if (!canBeThere(ship, pilot, seats)) {
            return AGAINST_PLACE;
        }
        return pilot.willing ? AGAINST_NOTHING : AGAINST_WILL;
    }

    private static boolean canBeThere(Ship ship, Pilot pilot, int seats) {
        boolean atStation = pilot.duty.where == AT_STATION;
        if (!ship.in) {
            return atStation;
        }
        return pilot.duty.where == AT_POST || (atStation && seats > 0);
    }

    private static boolean needsSeat(Ship ship, Pilot pilot) {
        return ship.in && pilot.duty.where == AT_STATION;
    }

    private void depart(Ship ship, Pilot leader, Pilot second, int at) {
        ship.trip.state = LED;
        ship.trip.wentAt = at;
        ship.trip.leader = leader;
        ship.trip.second = second;
        board(ship, leader);
        board(ship, second);
        if (ship.wantsLearner) {
            ship.trip.learner = findLearner(ship, at);
            board(ship, ship.trip.learner);
        }
    }

    private void board(Ship ship, Pilot pilot) {
        if (pilot == null) {
            return;
        }
        if (needsSeat(ship, pilot)) {
            seatsLeft--;
        }
        roster.takeOut(pilot);
        pilot.duty.goAboard(ship);
    }

    private Pilot findLearner(Ship ship, int at) {
        for (int i = 0; i < roster.length(); i++) {
            Pilot pilot = roster.at(i);
            if (pilot != null && pilot.kind == KIND_LEARNER && pilot.willing
                    && !pilot.isOff(at / CLOCKS) && canBeThere(ship, pilot, seatsLeft)) {
                return pilot;
            }
        }
        return null;
    }

    private void bringBackFromPost() {
        int seats = boats.seatsBack(now);
        for (int i = 0; i < seats; i++) {
            Pilot longest = longestAtPost();
            if (longest == null) {
                return;
            }
            longest.duty.stayAt(AT_STATION, now + 1);
        }
    }

    private Pilot longestAtPost() {
        Pilot longest = null;
        for (int i = 0; i < pilots.size(); i++) {
            Pilot pilot = pilots.get(i);
            if (pilot.duty.where == AT_POST && (longest == null || pilot.duty.cameAt < longest.duty.cameAt)) {
                longest = pilot;
            }
        }
        return longest;
    }

    private void endShips() {
        for (int i = 0; i < ships.size(); i++) {
            Ship ship = ships.get(i);
            if (ship.trip.state == LED && ship.trip.wentAt + ship.hoursToLead() == now) {
                ship.trip.state = ENDED;
                endDuty(ship, ship.trip.leader);
                endDuty(ship, ship.trip.second);
                endDuty(ship, ship.trip.learner);
            }
        }
    }

    private void endDuty(Ship ship, Pilot pilot) {
        if (pilot == null) {
            return;
        }
        Duty duty = pilot.duty;
        if (pilot != ship.trip.learner) {
            duty.turns++;
            duty.hoursLed += ship.hoursToLead();
        }
        boolean soonAgain = duty.lastEnd != NONE && now - duty.lastEnd < CLOCKS;
        duty.restedFrom = now + restRule.hoursBehind(ledByNight(ship), soonAgain);
        duty.lastEnd = now;
        if (!ship.in) {
            duty.stayAt(AT_POST, now);
        } else if (roadHours == 0) {
            duty.stayAt(AT_STATION, now);
        } else {
            duty.takeRoad(now + roadHours);
        }
    }

    private static boolean ledByNight(Ship ship) {
        for (int i = 0; i < ship.hoursToLead(); i++) {
            if (isNight(ship.trip.wentAt + i)) {
                return true;
            }
        }
        return false;
    }

    private void endRoads() {
        for (int i = 0; i < pilots.size(); i++) {
            Duty duty = pilots.get(i).duty;
            if (duty.where == ON_ROAD && duty.roadEnd <= now) {
                duty.stayAt(AT_STATION, now);
            }
        }
    }

    private void listTheRested() {
        for (int i = 0; i < pilots.size(); i++) {
            Pilot pilot = pilots.get(i);
            boolean ashore = pilot.duty.where == AT_STATION || pilot.duty.where == AT_POST;
            if (ashore && pilot.duty.restedFrom <= now && roster.placeOf(pilot) == NONE) {
                roster.append(pilot);
            }
        }
    }

    private boolean wentJustNow(Trip trip) {
        return trip.state == LED && trip.wentAt == now;
    }

    private boolean canGiveLeader(Trip trip) {
        return wentJustNow(trip) && trip.leader != null && trip.second == null;
    }

    private int shipsThat(int state) {
        int sum = 0;
        for (int i = 0; i < ships.size(); i++) {
            if (ships.get(i).trip.state == state) {
                sum++;
            }
        }
        return sum;
    }

    private int sumOfLooks(int what) {
        int sum = 0;
        for (int i = 0; i < pilots.size(); i++) {
            sum += look(i, what);
        }
        return sum;
    }

    private int sumOfCrafts(int what) {
        int sum = 0;
        for (int i = 0; i < ships.size(); i++) {
            sum += craft(i, what);
        }
        return sum;
    }

    /** What a pilot is, and apart from that what hour() changes of them, so that undo() can bring it back. */
    private static final class Pilot {
        final int number;
        final int kind;
        final int length;
        final int draught;
        final Duty duty;
        final Duty keptDuty;
        private final boolean[] offOn;
        int daysOff;
        boolean willing;

        Pilot(int number, int kind, int length, int draught) {
            this.number = number;
            this.kind = kind;
            this.length = length;
            this.draught = draught;
            duty = new Duty();
            keptDuty = new Duty();
            offOn = new boolean[DAYS];
            daysOff = 0;
            willing = true;
        }

        boolean mayLead(Ship ship) {
            boolean licensed = ship.length <= length && ship.draught <= draught;
            switch (kind) {
                case KIND_PILOT: return licensed;
                case KIND_SENIOR: return true;
                case KIND_SECOND: return ship.wants == WANTS_TWO;
                case KIND_RETIRED: return licensed && ship.wants == number;
                default: return false;
            }
        }

        boolean isOff(int day) {
            return day >= 0 && day < offOn.length && offOn[day];
        }

        boolean setOff(int day, boolean on) {
            if (day < 0 || day >= offOn.length || offOn[day] == on) {
                return false;
            }
            offOn[day] = on;
            daysOff += on ? 1 : -1;
            return true;
        }

        boolean isLike(Pilot other) {
            return kind == other.kind && length == other.length
                    && draught == other.draught && daysOff == other.daysOff;
        }
    }

    /** What a pilot does and did. */
    private static final class Duty {
        int where;
        int cameAt;
        int roadEnd;
        int restedFrom;
        int lastEnd;
        int turns;
        int hoursLed;
        /** The place in the LIST as the latest hour() began that found them in it. */
        int placeBefore;
        Ship aboard;

        Duty() {
            where = AT_STATION;
            cameAt = 0;
            roadEnd = 0;
            restedFrom = 0;
            lastEnd = NONE;
            turns = 0;
            hoursLed = 0;
            placeBefore = NONE;
            aboard = null;
        }

        void goAboard(Ship ship) {
            where = ABOARD;
            aboard = ship;
        }

        void stayAt(int place, int hour) {
            where = place;
            cameAt = hour;
            aboard = null;
        }

        void takeRoad(int end) {
            where = ON_ROAD;
            roadEnd = end;
            aboard = null;
        }

        void copyFrom(Duty other) {
            where = other.where;
            cameAt = other.cameAt;
            roadEnd = other.roadEnd;
            restedFrom = other.restedFrom;
            lastEnd = other.lastEnd;
            turns = other.turns;
            hoursLed = other.hoursLed;
            placeBefore = other.placeBefore;
            aboard = other.aboard;
        }
    }

    /** What a ship is, and apart from that what hour() changes of it, so that undo() can bring it back. */
    private static final class Ship {
        final int number;
        final boolean in;
        final int length;
        final int draught;
        final int hour;
        final int wants;
        final boolean wantsLearner;
        final Trip trip;
        final Trip keptTrip;

        Ship(int number, boolean in, int length, int draught, int hour, int wants, boolean wantsLearner) {
            this.number = number;
            this.in = in;
            this.length = length;
            this.draught = draught;
            this.hour = hour;
            this.wants = wants;
            this.wantsLearner = wantsLearner;
            trip = new Trip();
            keptTrip = new Trip();
        }

        int hoursToLead() {
            return 1 + length / 100;
        }
    }

    /** What becomes of a ship. */
    private static final class Trip {
        int state;
        int wentAt;
        Pilot leader;
        Pilot second;
        Pilot learner;
        int tideHours;
        int pilotHours;
        int boatHours;

        Trip() {
            state = WAITS;
            wentAt = NONE;
            leader = null;
            second = null;
            learner = null;
            tideHours = 0;
            pilotHours = 0;
            boatHours = 0;
        }

        Pilot aboardFromPlace(int place) {
            if (leader != null && leader.duty.placeBefore == place) {
                return leader;
            }
            if (second != null && second.duty.placeBefore == place) {
                return second;
            }
            if (learner != null && learner.duty.placeBefore == place) {
                return learner;
            }
            return null;
        }

        void turnBack() {
            state = TURNED_BACK;
            leader = null;
            second = null;
            learner = null;
        }

        void copyFrom(Trip other) {
            state = other.state;
            wentAt = other.wentAt;
            leader = other.leader;
            second = other.second;
            learner = other.learner;
            tideHours = other.tideHours;
            pilotHours = other.pilotHours;
            boatHours = other.boatHours;
        }
    }

    /** The rows of all DAYS, one behind the other; a DAY without a DRAUGHT told has no row. */
    private static final class Tides {
        private final int[] draughts;
        private final int[] told;

        Tides() {
            draughts = new int[DAYS * CLOCKS];
            told = new int[DAYS];
        }

        int toldOn(int day) {
            return day < 0 || day >= told.length ? 0 : told[day];
        }

        void tell(int day, int draught) {
            if (day < 0 || day >= told.length || told[day] >= CLOCKS) {
                return;
            }
            int cell = day * CLOCKS + told[day];
            if (cell >= 0 && cell < draughts.length) {
                draughts[cell] = draught;
                told[day]++;
            }
        }

        void forget(int day) {
            if (day >= 0 && day < told.length) {
                told[day] = 0;
            }
        }

        boolean letThrough(int draught, int hour) {
            if (hour < 0 || hour >= draughts.length) {
                return false;
            }
            return hour % CLOCKS < toldOn(hour / CLOCKS) && draught <= draughts[hour];
        }
    }

    /** The seats of all boats together: nothing asks which boat a seat is in. */
    private static final class Boats {
        private final int[] seatsByClock;
        int number;

        Boats() {
            seatsByClock = new int[CLOCKS];
            number = 0;
        }

        void addBoat(int clocks, int seats) {
            for (int clock = 0; clock < seatsByClock.length; clock++) {
                if ((clocks >> clock & 1) == 1) {
                    seatsByClock[clock] += seats;
                }
            }
            number++;
        }

        int seatsOut(int hour) {
            int clock = hour % CLOCKS;
            return clock < 0 || clock >= seatsByClock.length ? 0 : seatsByClock[clock];
        }

        /** A boat leaves the POST an hour behind the STATION. */
        int seatsBack(int hour) {
            return hour <= 0 ? 0 : seatsOut(hour - 1);
        }
    }

    private static final class RestRule {
        private int base;
        private int nights;
        private int twice;

        RestRule() {
            base = 8;
            nights = 4;
            twice = 4;
        }

        void set(int base, int nights, int twice) {
            this.base = base;
            this.nights = nights;
            this.twice = twice;
        }

        int hoursBehind(boolean byNight, boolean soonAgain) {
            return base + (byNight ? nights : 0) + (soonAgain ? twice : 0);
        }
    }

    /** Pilots in an order: the LIST, or a copy of it. */
    private static final class Roster {
        private final ArrayList<Pilot> row;

        Roster() {
            row = new ArrayList<Pilot>();
        }

        int length() {
            return row.size();
        }

        Pilot at(int place) {
            return place < 0 || place >= row.size() ? null : row.get(place);
        }

        int placeOf(Pilot pilot) {
            for (int i = 0; i < row.size(); i++) {
                if (row.get(i) == pilot) {
                    return i;
                }
            }
            return NONE;
        }

        void append(Pilot pilot) {
            row.add(pilot);
        }

        void insert(Pilot pilot, int place) {
            if (place < 0 || place >= row.size()) {
                row.add(pilot);
            } else {
                row.add(place, pilot);
            }
        }

        void takeOut(Pilot pilot) {
            int place = placeOf(pilot);
            if (place >= 0 && place < row.size()) {
                row.remove(place);
            }
        }

        void moveToEnd(Pilot pilot) {
            int place = placeOf(pilot);
            if (place >= 0 && place < row.size()) {
                row.add(row.remove(place));
            }
        }

        void markPlaces() {
            for (int i = 0; i < row.size(); i++) {
                row.get(i).duty.placeBefore = i;
            }
        }

        void copyFrom(Roster other) {
            row.clear();
            for (int i = 0; i < other.row.size(); i++) {
                row.add(other.row.get(i));
            }
        }
    }

    /** Who was asked in the latest hour(): all are counted, the first 300 kept. */
    private static final class AskedLog {
        private final int[] shipNumbers;
        private final int[] pilotNumbers;
        private final int[] againsts;
        int all;

        AskedLog() {
            shipNumbers = new int[MOST_ASKED_KEPT];
            pilotNumbers = new int[MOST_ASKED_KEPT];
            againsts = new int[MOST_ASKED_KEPT];
            all = 0;
        }

        void clear() {
            all = 0;
        }

        void add(int ship, int pilot, int against) {
            if (all >= 0 && all < shipNumbers.length && all < pilotNumbers.length && all < againsts.length) {
                shipNumbers[all] = ship;
                pilotNumbers[all] = pilot;
                againsts[all] = against;
            }
            all++;
        }

        int read(int i, int what) {
            if (i < 0 || i >= all) {
                return NONE;
            }
            switch (what) {
                case 0: return i < shipNumbers.length ? shipNumbers[i] : NONE;
                case 1: return i < pilotNumbers.length ? pilotNumbers[i] : NONE;
                case 2: return i < againsts.length ? againsts[i] : NONE;
                default: return NONE;
            }
        }
    }
}
