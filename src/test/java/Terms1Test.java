/** The boundary cases of the document's "Terms" 1: hours, days, clocks, ranges, who MAY LEAD, tides, seats. */
public final class Terms1Test {
    private static final int LEAST = Integer.MIN_VALUE;
    private static final int MOST = Integer.MAX_VALUE;

    public static void main(String[] args) {
        usedFor512Calls();
        hoursOfADay();
        dayThatIsOff();
        nowAtFirst();
        nowAtLast();
        daysThatThereAre();
        clocks();
        nightByClocks();
        nightOfSeveralHours();
        sixtyPilots();
        kinds();
        licenceRanges();
        willingAtFirst();
        noDaysOffAtFirst();
        fourHundredShips();
        shipRanges();
        wantsOneTwoOrATold();
        pilotMayLead();
        retiredMayLead();
        seniorMayLead();
        secondMayLead();
        learnerMayLead();
        dayWithoutARow();
        rowThatIsShort();
        draughtOfTheWindow();
        fullRow();
        twelveBoats();
        boatsClocks();
        boatsSeats();
        seatsOfAllBoats();
        noSeatsBackAtFirst();
        seatsBackOverTheEndOfADay();
        Check.end("Terms1Test");
    }

    private static void usedFor512Calls() {
        Check.sentence("What it is", "An object is used for at most 512 calls after it has been made");
        PilotStation x = Check.openFor(1);
        Check.pilots(x, 1, 60);
        for (int b = 0; b < 12; b++) {
            x.boat(Check.ALL_DAY, 20);
        }
        for (int s = 0; s < 400; s++) {
            x.ship(false, 1 + s % 99, 1, 0, -1, false);
        }
        int went = 0;
        for (int call = 497; call <= 511; call++) {
            went += x.hour();
        }
        Check.due("went at 1, and at 15 when all were rested", went, 120);
        Check.due("call 512: how many wait", x.count(4), 280);
    }

    private static void hoursOfADay() {
        Check.sentence("Terms 1", "DAY d has the HOURS 24 d to 24 d + 23.");
        for (int day : new int[] {0, 1, 2, 398, 399}) {
            PilotStation x = new PilotStation();
            x.ship(false, 1, 1, 0, -1, false);
            Check.open(x, day);
            Check.due("day " + day + ", the hour ahead", x.window(0, 24 * day - 1), false);
            Check.due("day " + day + ", the first", x.window(0, 24 * day), true);
            Check.due("day " + day + ", the last", x.window(0, 24 * day + 23), true);
            Check.due("day " + day + ", the hour behind", x.window(0, 24 * day + 24), false);
        }
    }

    private static void dayThatIsOff() {
        Check.sentence("Terms 1", "DAY d has the HOURS 24 d to 24 d + 23.");
        PilotStation x = Check.seniors(2);
        x.off(0, 0, true);
        x.off(1, 1, true);
        x.ship(false, 20, 1, 23, 0, false);
        x.ship(false, 10, 1, 24, 1, false);
        Check.hoursTo(x, 23);
        Check.dueAsked("at 23 day 0 is OFF", x, Check.row(0, 0, 2));
        x.hour();
        Check.dueAsked("at 24 it is day 1", x, Check.row(0, 0, 0), Check.row(1, 1, 2));
        for (int wants = -2; wants <= -1; wants++) {
            PilotStation y = Check.seniors(5);
            y.off(0, 0, true);
            y.off(1, 1, true);
            y.off(3, 0, true);
            y.off(4, 1, true);
            y.ship(false, 20, 1, 23, wants, false);
            y.ship(false, 10, 1, 24, wants, false);
            Check.hoursTo(y, 23);
            Check.dueCrew("at 23, wants " + wants, y, 0, 1, wants == -2 ? 2 : -1, -1);
            y.hour();
            Check.dueCrew("at 24, wants " + wants, y, 1, 0, wants == -2 ? 3 : -1, -1);
        }
    }

    private static void nowAtFirst() {
        Check.sentence("Terms 1", "NOW is an HOUR, 0 at first, 9599 at last");
        PilotStation x = new PilotStation();
        Check.due("count(0)", x.count(0), 0);
        Check.due("hour()", x.hour(), 0);
        Check.due("count(0)", x.count(0), 1);
    }

    private static void nowAtLast() {
        Check.sentence("Terms 1", "NOW is an HOUR, 0 at first, 9599 at last");
        PilotStation x = new PilotStation();
        Check.open(x, 399);
        Check.pilots(x, 1, 1);
        x.ship(false, 1, 1, 9599, -1, false);
        Check.hoursTo(x, 9598);
        Check.due("NOW", x.count(0), 9598);
        Check.due("it goes at the last HOUR", x.hour(), 1);
        Check.due("NOW", x.count(0), 9599);
        Check.due("went at", x.craft(0, 1), 9599);
        String before = State.told(x);
        Check.due("no HOUR more", x.hour(), PilotStation.NONE);
        Check.due("that nothing has changed", State.told(x).equals(before), true);
    }

    private static void daysThatThereAre() {
        Check.sentence("Terms 1", "(so there are 400 DAYS)");
        PilotStation x = new PilotStation();
        Check.pilots(x, 0, 1);
        for (int day : new int[] {0, 399}) {
            Check.due("tide(" + day + ")", x.tide(day, 1), 1);
            Check.due("tear(" + day + ")", x.tear(day), true);
            Check.due("off(" + day + ")", x.off(0, day, true), true);
        }
        for (int day : new int[] {-1, 400, LEAST, MOST}) {
            Check.throwing(x, "tide(" + day + ", 1)", Check.INDEX, () -> x.tide(day, 1));
            Check.throwing(x, "tear(" + day + ")", Check.INDEX, () -> x.tear(day));
            Check.throwing(x, "off(0, " + day + ", true)", Check.INDEX, () -> x.off(0, day, true));
        }
    }

    private static void clocks() {
        Check.sentence("Terms 1", "The others, by 24, leave 0 to 23: the CLOCK of an HOUR.");
        PilotStation x = new PilotStation();
        x.boat(1, 1);
        x.boat(1 << 23, 5);
        for (int hour : new int[] {0, 24, 48, 9576}) {
            Check.due("CLOCK 0 of " + hour, x.seats(hour, true), 1);
        }
        for (int hour : new int[] {23, 47, 9575, 9599}) {
            Check.due("CLOCK 23 of " + hour, x.seats(hour, true), 5);
        }
        for (int hour : new int[] {1, 22, 25, 46, 9577, 9598}) {
            Check.due("another CLOCK of " + hour, x.seats(hour, true), 0);
        }
    }

    /** The HOUR from which on the LEADER of a SHIP OUT that went at an HOUR is RESTED, NIGHTS being 10 and BASE 0. */
    private static int restedBehind(int length, int hour) {
        PilotStation x = Check.seniors(1);
        x.rest(0, 10, 0);
        x.ship(false, length, 1, hour, -1, false);
        Check.hoursTo(x, hour + 1 + length / 100);
        Check.due("it went", x.craft(0, 1), hour);
        Check.due("it came to its END", x.craft(0, 0), 2);
        return x.look(0, 4);
    }

    private static void nightByClocks() {
        Check.sentence("Terms 1", "NIGHT: a CLOCK below 6 or above 21.");
        for (int hour = 1; hour <= 46; hour++) {
            int clock = hour % 24;
            boolean night = clock < 6 || clock > 21;
            Check.due("led at CLOCK " + clock, restedBehind(50, hour), hour + 1 + (night ? 10 : 0));
        }
    }

    private static void nightOfSeveralHours() {
        Check.sentence("Terms 1", "NIGHT: a CLOCK below 6 or above 21.");
        Check.due("5 and 6", restedBehind(100, 5), 7 + 10);
        Check.due("6 and 7", restedBehind(100, 6), 8);
        Check.due("20 and 21, the END at 22", restedBehind(100, 20), 22);
        Check.due("21 and 22", restedBehind(100, 21), 23 + 10);
        Check.due("17 to 21", restedBehind(400, 17), 22);
        Check.due("18 to 22", restedBehind(400, 18), 23 + 10);
    }

    private static void sixtyPilots() {
        Check.sentence("Terms 1", "PILOTS (60 at most, numbered from 0 on)");
        PilotStation x = new PilotStation();
        for (int p = 0; p < 60; p++) {
            Check.due("pilot()", x.pilot(p % 5, 1, 1), p);
        }
        Check.throwing(x, "the 61st", Check.FULL, () -> x.pilot(0, 1, 1));
        Check.due("how many", x.count(1), 60);
    }

    private static void kinds() {
        Check.sentence("Terms 1", "a KIND: 0 PILOT, 1 SENIOR, 2 LEARNER, 3 SECOND, 4 RETIRED");
        PilotStation x = new PilotStation();
        for (int kind = 0; kind <= 4; kind++) {
            x.pilot(kind, 1, 1);
            Check.due("look(" + kind + ", 0)", x.look(kind, 0), kind);
        }
        for (int kind : new int[] {-1, 5, LEAST, MOST}) {
            Check.throwing(x, "pilot(" + kind + ", 1, 1)", Check.ARGUMENT, () -> x.pilot(kind, 1, 1));
        }
    }

    private static void licenceRanges() {
        Check.sentence("Terms 1", "a LICENCE: a LENGTH (0 to 400) and a DRAUGHT (0 to 200)");
        PilotStation x = new PilotStation();
        x.pilot(0, 0, 200);
        x.pilot(0, 400, 0);
        Check.due("the least LENGTH", x.look(0, 1), 0);
        Check.due("the greatest DRAUGHT", x.look(0, 2), 200);
        Check.due("the greatest LENGTH", x.look(1, 1), 400);
        Check.due("the least DRAUGHT", x.look(1, 2), 0);
        for (int length : new int[] {-1, 401, LEAST, MOST}) {
            Check.throwing(x, "pilot(0, " + length + ", 1)", Check.ARGUMENT, () -> x.pilot(0, length, 1));
        }
        for (int draught : new int[] {-1, 201, LEAST, MOST}) {
            Check.throwing(x, "pilot(0, 1, " + draught + ")", Check.ARGUMENT, () -> x.pilot(0, 1, draught));
        }
    }

    private static void willingAtFirst() {
        Check.sentence("Terms 1", "WILLING or not (at first they are)");
        for (int kind = 0; kind <= 4; kind++) {
            PilotStation x = new PilotStation();
            x.pilot(kind, 1, 1);
            Check.due("look(0, 9)", x.look(0, 9), 1);
        }
    }

    private static void noDaysOffAtFirst() {
        Check.sentence("Terms 1", "DAYS OFF (none at first)");
        PilotStation x = new PilotStation();
        x.pilot(0, 1, 1);
        Check.due("look(0, 10)", x.look(0, 10), 0);
        for (int day = 0; day < 400; day++) {
            Check.due("off(0, " + day + ", false)", x.off(0, day, false), false);
        }
    }

    private static void fourHundredShips() {
        Check.sentence("Terms 1", "SHIPS (400 at most, numbered from 0 on)");
        PilotStation x = new PilotStation();
        for (int s = 0; s < 400; s++) {
            Check.due("ship()", x.ship(s % 2 == 0, 1 + s, 1, s, -1, false), s);
        }
        Check.throwing(x, "the 401st", Check.FULL, () -> x.ship(false, 1, 1, 0, -1, false));
        Check.due("how many", x.count(2), 400);
    }

    private static void shipRanges() {
        Check.sentence("Terms 1", "IN or OUT, a LENGTH (1 to 400), a DRAUGHT (1 to 200)");
        PilotStation x = new PilotStation();
        x.ship(true, 1, 200, 0, -1, false);
        x.ship(false, 400, 1, 0, -1, false);
        Check.due("the least LENGTH", x.craft(0, 8), 1);
        Check.due("the greatest DRAUGHT", x.craft(0, 9), 200);
        Check.due("the greatest LENGTH", x.craft(1, 8), 400);
        Check.due("the least DRAUGHT", x.craft(1, 9), 1);
        for (int length : new int[] {0, -1, 401, LEAST, MOST}) {
            Check.throwing(x, "LENGTH " + length, Check.ARGUMENT, () -> x.ship(true, length, 1, 0, -1, false));
        }
        for (int draught : new int[] {0, -1, 201, LEAST, MOST}) {
            Check.throwing(x, "DRAUGHT " + draught, Check.ARGUMENT, () -> x.ship(true, 1, draught, 0, -1, false));
        }
    }

    private static void wantsOneTwoOrATold() {
        Check.sentence("Terms 1", "WANTS: one PILOT (-1), two (-2), or a told one (its number)");
        PilotStation x = Check.seniors(4);
        x.ship(false, 50, 1, 0, 3, false);
        x.ship(false, 40, 1, 0, 0, false);
        x.ship(false, 30, 1, 0, -2, false);
        x.ship(false, 20, 1, 0, -1, false);
        Check.due("three of them go", x.hour(), 3);
        Check.dueCrew("the told one with the greatest number", x, 0, 3, -1, -1);
        Check.dueCrew("the told one with the number 0", x, 1, 0, -1, -1);
        Check.dueCrew("two", x, 2, 1, 2, -1);
        Check.dueCrew("nobody is left", x, 3, -1, -1, -1);
        x.pilot(1, 1, 1);
        x.hour();
        Check.dueCrew("one", x, 3, 4, -1, -1);
    }

    /** A station with one pilot of a kind and of LICENCE (100, 50), and another behind it. */
    private static PilotStation oneOf(int kind) {
        PilotStation x = new PilotStation();
        x.pilot(kind, 100, 50);
        x.pilot(kind, 100, 50);
        return x;
    }

    private static boolean mayLead(PilotStation x, int length, int draught, int wants) {
        return x.may(0, x.ship(false, length, draught, 0, wants, false));
    }

    private static void pilotMayLead() {
        Check.sentence("Terms 1", "a PILOT a SHIP whose LENGTH and DRAUGHT are not above those of the LICENCE");
        PilotStation x = oneOf(0);
        for (int wants = -2; wants <= 1; wants++) {
            Check.due("the LICENCE's own, wants " + wants, mayLead(x, 100, 50, wants), true);
            Check.due("the least, wants " + wants, mayLead(x, 1, 1, wants), true);
            Check.due("longer by 1, wants " + wants, mayLead(x, 101, 50, wants), false);
            Check.due("deeper by 1, wants " + wants, mayLead(x, 100, 51, wants), false);
            Check.due("short and deeper by 1", mayLead(x, 1, 51, wants), false);
            Check.due("longer by 1 and flat", mayLead(x, 101, 1, wants), false);
        }
        PilotStation y = new PilotStation();
        y.pilot(0, 0, 0);
        Check.due("a LICENCE of 0 and 0", mayLead(y, 1, 1, -1), false);
        PilotStation z = new PilotStation();
        z.pilot(0, 400, 200);
        Check.due("the greatest LICENCE", mayLead(z, 400, 200, -1), true);
    }

    private static void retiredMayLead() {
        Check.sentence("Terms 1", "a RETIRED such a SHIP that WANTS just them");
        PilotStation x = oneOf(4);
        Check.due("wants them", mayLead(x, 100, 50, 0), true);
        Check.due("wants them, longer by 1", mayLead(x, 101, 50, 0), false);
        Check.due("wants them, deeper by 1", mayLead(x, 100, 51, 0), false);
        Check.due("wants another one", mayLead(x, 100, 50, 1), false);
        Check.due("wants one", mayLead(x, 100, 50, -1), false);
        Check.due("wants two", mayLead(x, 100, 50, -2), false);
    }

    private static void seniorMayLead() {
        Check.sentence("Terms 1", "a SENIOR any");
        PilotStation x = new PilotStation();
        x.pilot(1, 0, 0);
        x.pilot(1, 0, 0);
        for (int wants = -2; wants <= 1; wants++) {
            Check.due("the greatest, wants " + wants, mayLead(x, 400, 200, wants), true);
            Check.due("the least, wants " + wants, mayLead(x, 1, 1, wants), true);
        }
    }

    private static void secondMayLead() {
        Check.sentence("Terms 1", "a SECOND any that WANTS two");
        PilotStation x = oneOf(3);
        Check.due("the greatest that wants two", mayLead(x, 400, 200, -2), true);
        Check.due("the least that wants two", mayLead(x, 1, 1, -2), true);
        Check.due("wants one", mayLead(x, 1, 1, -1), false);
        Check.due("wants them", mayLead(x, 1, 1, 0), false);
        Check.due("wants another", mayLead(x, 1, 1, 1), false);
    }

    private static void learnerMayLead() {
        Check.sentence("Terms 1", "a LEARNER none");
        PilotStation x = new PilotStation();
        Check.pilots(x, 2, 2);
        for (int wants = -2; wants <= 1; wants++) {
            Check.due("the least, wants " + wants, mayLead(x, 1, 1, wants), false);
        }
    }

    private static void dayWithoutARow() {
        Check.sentence("Terms 1", "a DAY has a row of up to 24 DRAUGHTS (0 to 200), by the CLOCK, or none (at first)");
        PilotStation x = new PilotStation();
        x.ship(false, 1, 1, 0, -1, false);
        for (int day = 0; day < 400; day++) {
            Check.due("the first HOUR of DAY " + day, x.window(0, 24 * day), false);
            Check.due("tear(" + day + ")", x.tear(day), false);
        }
        x.hour();
        Check.dueWaits("no row", x, 0, 1, 0, 0);
    }

    private static void rowThatIsShort() {
        Check.sentence("Terms 1", "the row goes up to that CLOCK at least");
        PilotStation x = new PilotStation();
        x.ship(false, 1, 1, 0, -1, false);
        for (int told = 1; told <= 24; told++) {
            Check.due("tide()", x.tide(5, 200), told);
            Check.due("the last one told", x.window(0, 120 + told - 1), true);
            Check.due("the first one not told", x.window(0, 120 + told), false);
        }
    }

    private static void draughtOfTheWindow() {
        Check.sentence("Terms 1", "the SHIP's DRAUGHT is not above the one told there");
        PilotStation x = new PilotStation();
        int[] told = {0, 1, 49, 50, 51, 199, 200};
        for (int draught : told) {
            x.tide(0, draught);
        }
        int[] draughts = {1, 50, 200};
        for (int s = 0; s < draughts.length; s++) {
            x.ship(false, 1, draughts[s], 0, -1, false);
            for (int clock = 0; clock < told.length; clock++) {
                Check.due("DRAUGHT " + draughts[s] + " where " + told[clock] + " is told",
                        x.window(s, clock), draughts[s] <= told[clock]);
            }
        }
    }

    private static void fullRow() {
        Check.sentence("Terms 1", "a DAY has a row of up to 24 DRAUGHTS (0 to 200), by the CLOCK, or none (at first)");
        PilotStation x = Check.openFor(1);
        x.ship(false, 1, 200, 0, -1, false);
        Check.throwing(x, "the 25th", Check.FULL, () -> x.tide(0, 200));
        Check.due("the last CLOCK", x.window(0, 23), true);
        Check.due("nothing went over to the next DAY", x.window(0, 24), false);
        Check.due("that DAY has no row", x.tear(1), false);
    }

    private static void twelveBoats() {
        Check.sentence("Terms 1", "BOATS (12 at most)");
        PilotStation x = new PilotStation();
        for (int b = 0; b < 12; b++) {
            Check.due("boat()", x.boat(Check.ALL_DAY, 20), b);
        }
        Check.throwing(x, "the 13th", Check.FULL, () -> x.boat(1, 1));
        Check.due("how many", x.count(3), 12);
        Check.due("all their SEATS OUT", x.seats(7, true), 240);
        Check.due("all their SEATS BACK", x.seats(7, false), 240);
    }

    private static void boatsClocks() {
        Check.sentence("Terms 1", "at each CLOCK whose bit is 1 a BOAT leaves the STATION for the POST,"
                + " where it is an hour later, and at once goes back");
        for (int clock = 0; clock < 24; clock++) {
            PilotStation x = new PilotStation();
            x.boat(1 << clock, 3);
            for (int hour = 0; hour < 72; hour++) {
                Check.due("OUT at " + hour, x.seats(hour, true), hour % 24 == clock ? 3 : 0);
                Check.due("BACK at " + hour, x.seats(hour, false), hour > 0 && (hour - 1) % 24 == clock ? 3 : 0);
            }
        }
        PilotStation none = new PilotStation();
        Check.due("a BOAT that never leaves", none.boat(0, 20), 0);
        for (int hour = 0; hour < 48; hour++) {
            Check.due("no SEATS OUT", none.seats(hour, true), 0);
            Check.due("no SEATS BACK", none.seats(hour, false), 0);
        }
    }

    private static void boatsSeats() {
        Check.sentence("Terms 1", "it has SEATS (1 to 20), each way");
        PilotStation x = new PilotStation();
        x.boat(1, 1);
        x.boat(2, 20);
        Check.due("the least, OUT", x.seats(0, true), 1);
        Check.due("the least, BACK", x.seats(1, false), 1);
        Check.due("the greatest, OUT", x.seats(1, true), 20);
        Check.due("the greatest, BACK", x.seats(2, false), 20);
        for (int seats : new int[] {0, -1, 21, LEAST, MOST}) {
            Check.throwing(x, "boat(1, " + seats + ")", Check.ARGUMENT, () -> x.boat(1, seats));
        }
    }

    private static void seatsOfAllBoats() {
        Check.sentence("Terms 1", "SEATS OUT of an HOUR are those of all BOATS that leave the STATION at it,"
                + " SEATS BACK those of all that leave the POST at it");
        PilotStation x = new PilotStation();
        x.boat(0b0011, 2);
        x.boat(0b0110, 5);
        x.boat(0b0010, 11);
        int[] out = {2, 18, 5, 0, 0};
        int[] back = {0, 2, 18, 5, 0};
        for (int hour = 0; hour < out.length; hour++) {
            Check.due("OUT at " + hour, x.seats(hour, true), out[hour]);
            Check.due("BACK at " + hour, x.seats(hour, false), back[hour]);
        }
    }

    private static void noSeatsBackAtFirst() {
        Check.sentence("Terms 1", "(none at HOUR 0)");
        PilotStation x = new PilotStation();
        x.boat(Check.ALL_DAY, 20);
        Check.due("BACK at 0", x.seats(0, false), 0);
        Check.due("BACK at 1", x.seats(1, false), 20);
        Check.due("OUT at 0", x.seats(0, true), 20);
    }

    private static void seatsBackOverTheEndOfADay() {
        Check.sentence("Terms 1", "SEATS BACK those of all that leave the POST at it");
        PilotStation x = Check.seniors(1);
        x.boat(1 << 23, 1);
        x.ship(false, 50, 1, 20, -1, false);
        Check.due("left the STATION at 23, the POST at 24", x.seats(24, false), 1);
        Check.due("not at 0", x.seats(0, false), 0);
        Check.due("at the last DAY's beginning", x.seats(9576, false), 1);
        Check.hoursTo(x, 24);
        Check.due("at the POST when it comes", x.look(0, 3), 1);
        x.hour();
        Check.due("at the STATION another hour later", x.look(0, 3), 0);
    }
}
