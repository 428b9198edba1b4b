/** The boundary cases of the document's promises 1 to 10: each exception, and the last number ahead of it. */
public final class Promises1To10Test {
    private static final int LEAST = Integer.MIN_VALUE;
    private static final int MOST = Integer.MAX_VALUE;

    public static void main(String[] args) {
        newObject();
        newRoad();
        pilotThrows();
        pilotOfTheFull();
        shipThrows();
        shipWantsNobody();
        shipOfTheFull();
        tideThrows();
        tideOfTheFull();
        tideAnswers();
        tear();
        boatThrows();
        boatOfTheFull();
        road();
        rest();
        offAnswers();
        offThrows();
        willAnswers();
        willThrows();
        Check.end("Promises1To10Test");
    }

    private static void newObject() {
        Check.sentence("Promise 1", "No PILOTS, SHIPS, BOATS, rows; ROAD 1.");
        PilotStation x = new PilotStation();
        for (int what = 0; what <= 14; what++) {
            Check.due("count(" + what + ")", x.count(what), 0);
        }
        for (int day = 0; day < 400; day++) {
            Check.due("a row of DAY " + day, x.tear(day), false);
        }
        Check.throwing(x, "look(0, 0)", Check.INDEX, () -> x.look(0, 0));
        Check.throwing(x, "craft(0, 0)", Check.INDEX, () -> x.craft(0, 0));
        Check.throwing(x, "may(0, 0)", Check.INDEX, () -> x.may(0, 0));
        Check.throwing(x, "back(0)", Check.INDEX, () -> x.back(0));
        Check.throwing(x, "swap(0, 0)", Check.INDEX, () -> x.swap(0, 0));
        Check.throwing(x, "will(0, true)", Check.INDEX, () -> x.will(0, true));
        Check.throwing(x, "off(0, 0, true)", Check.INDEX, () -> x.off(0, 0, true));
        Check.throwing(x, "window(0, 0)", Check.INDEX, () -> x.window(0, 0));
        Check.due("seats(0, true)", x.seats(0, true), 0);
        Check.due("list(0)", x.list(0), -1);
        Check.due("fair()", x.fair(), 0);
        Check.due("NONE", PilotStation.NONE, -1);
    }

    private static void newRoad() {
        Check.sentence("Promise 1", "ROAD 1.");
        PilotStation x = Check.seniors(1);
        x.boat(Check.ALL_DAY, 1);
        x.ship(true, 50, 1, 0, -1, false);
        Check.hoursTo(x, 2);
        Check.due("on the ROAD at the END", x.look(0, 3), 3);
        x.hour();
        Check.due("at the STATION one HOUR later", x.look(0, 3), 0);
    }

    private static void pilotThrows() {
        Check.sentence("Promise 2", "IllegalArgumentException: kind, length or draught is none");
        PilotStation x = new PilotStation();
        int[][] allowed = {{0, 0, 0}, {4, 0, 0}, {0, 400, 0}, {0, 0, 200}, {4, 400, 200}};
        for (int i = 0; i < allowed.length; i++) {
            Check.due("a new PILOT's number", x.pilot(allowed[i][0], allowed[i][1], allowed[i][2]), i);
        }
        int[][] wrong = {{-1, 1, 1}, {5, 1, 1}, {LEAST, 1, 1}, {MOST, 1, 1}, {0, -1, 1}, {0, 401, 1}, {0, LEAST, 1},
            {0, MOST, 1}, {0, 1, -1}, {0, 1, 201}, {0, 1, LEAST}, {0, 1, MOST}, {5, 401, 201}};
        for (int[] w : wrong) {
            Check.throwing(x, "pilot(" + w[0] + ", " + w[1] + ", " + w[2] + ")", Check.ARGUMENT,
                    () -> x.pilot(w[0], w[1], w[2]));
        }
        Check.due("the next number", x.pilot(0, 1, 1), allowed.length);
    }

    private static void pilotOfTheFull() {
        Check.sentence("Promise 2", "UnsupportedOperationException: there are 60");
        PilotStation x = new PilotStation();
        Check.pilots(x, 0, 59);
        Check.due("the 60th", x.pilot(0, 1, 1), 59);
        Check.throwing(x, "the 61st", Check.FULL, () -> x.pilot(0, 1, 1));
        Check.sentence("Terms 4, below", "Of several exceptions the one told first is thrown");
        Check.throwing(x, "the 61st, of no KIND", Check.ARGUMENT, () -> x.pilot(5, 1, 1));
        Check.throwing(x, "the 61st, of no LENGTH", Check.ARGUMENT, () -> x.pilot(0, 401, 1));
        Check.throwing(x, "the 61st, of no DRAUGHT", Check.ARGUMENT, () -> x.pilot(0, 1, 201));
    }

    private static void shipThrows() {
        Check.sentence("Promise 3", "IllegalArgumentException: length or draught is none, the hour is not 0 to 9599, wants is below -2");
        PilotStation x = new PilotStation();
        x.pilot(0, 1, 1);
        int[][] allowed = {{1, 1, 0, -2}, {400, 1, 0, -1}, {1, 200, 0, 0}, {1, 1, 9599, -1}};
        for (int i = 0; i < allowed.length; i++) {
            int[] a = allowed[i];
            Check.due("a new SHIP's number", x.ship(true, a[0], a[1], a[2], a[3], false), i);
            Check.due("it WAITS", x.craft(i, 0), 0);
        }
        int[][] wrong = {{0, 1, 0, -1}, {-1, 1, 0, -1}, {401, 1, 0, -1}, {LEAST, 1, 0, -1}, {MOST, 1, 0, -1},
            {1, 0, 0, -1}, {1, -1, 0, -1}, {1, 201, 0, -1}, {1, LEAST, 0, -1}, {1, MOST, 0, -1},
            {1, 1, -1, -1}, {1, 1, 9600, -1}, {1, 1, LEAST, -1}, {1, 1, MOST, -1}, {1, 1, 0, -3}, {1, 1, 0, LEAST}};
        for (int[] w : wrong) {
            Check.throwing(x, "ship(.., " + w[0] + ", " + w[1] + ", " + w[2] + ", " + w[3] + ", ..)", Check.ARGUMENT,
                    () -> x.ship(false, w[0], w[1], w[2], w[3], true));
        }
        Check.due("the next number", x.ship(true, 1, 1, 0, -1, false), allowed.length);
    }

    private static void shipWantsNobody() {
        Check.sentence("Promise 3", "IndexOutOfBoundsException: it wants a PILOT that there is not");
        PilotStation x = new PilotStation();
        Check.throwing(x, "wants 0 of none", Check.INDEX, () -> x.ship(true, 1, 1, 0, 0, false));
        Check.pilots(x, 0, 2);
        Check.due("wants the last one", x.ship(true, 1, 1, 0, 1, false), 0);
        Check.throwing(x, "wants 2 of two", Check.INDEX, () -> x.ship(true, 1, 1, 0, 2, false));
        Check.throwing(x, "wants the greatest number", Check.INDEX, () -> x.ship(true, 1, 1, 0, MOST, false));
        Check.sentence("Terms 4, below", "Of several exceptions the one told first is thrown");
        Check.throwing(x, "no LENGTH", Check.ARGUMENT, () -> x.ship(true, 0, 1, 0, 2, false));
        Check.throwing(x, "no DRAUGHT", Check.ARGUMENT, () -> x.ship(true, 1, 201, 0, 2, false));
        Check.throwing(x, "no HOUR", Check.ARGUMENT, () -> x.ship(true, 1, 1, 9600, 2, false));
    }

    private static void shipOfTheFull() {
        Check.sentence("Promise 3", "UnsupportedOperationException: there are 400");
        PilotStation x = new PilotStation();
        x.pilot(0, 1, 1);
        for (int s = 0; s < 399; s++) {
            x.ship(true, 1, 1, 0, -1, false);
        }
        Check.due("the 400th", x.ship(true, 400, 1, 0, -1, false), 399);
        Check.throwing(x, "the 401st", Check.FULL, () -> x.ship(true, 1, 1, 0, -1, false));
        Check.sentence("Terms 4, below", "Of several exceptions the one told first is thrown");
        Check.throwing(x, "the 401st, of no LENGTH", Check.ARGUMENT, () -> x.ship(true, 401, 1, 0, -1, false));
        Check.throwing(x, "the 401st, of no DRAUGHT", Check.ARGUMENT, () -> x.ship(true, 1, 0, 0, -1, false));
        Check.throwing(x, "the 401st, of no HOUR", Check.ARGUMENT, () -> x.ship(true, 1, 1, -1, -1, false));
        Check.throwing(x, "the 401st, wants -3", Check.ARGUMENT, () -> x.ship(true, 1, 1, 0, -3, false));
        Check.throwing(x, "the 401st, wants nobody", Check.INDEX, () -> x.ship(true, 1, 1, 0, 1, false));
    }

    private static void tideThrows() {
        Check.sentence("Promise 4", "IllegalArgumentException: not 0 to 200");
        PilotStation x = new PilotStation();
        x.ship(true, 1, 200, 0, -1, false);
        Check.due("the least", x.tide(0, 0), 1);
        Check.due("the greatest", x.tide(0, 200), 2);
        for (int draught : new int[] {-1, 201, LEAST, MOST}) {
            Check.throwing(x, "tide(0, " + draught + ")", Check.ARGUMENT, () -> x.tide(0, draught));
            Check.throwing(x, "tide(1, " + draught + ")", Check.ARGUMENT, () -> x.tide(1, draught));
        }
        Check.due("a row that a throw did not make", x.tear(1), false);
        Check.due("the next comes behind the last", x.tide(0, 200), 3);
        Check.sentence("Terms 4, below", "IndexOutOfBoundsException: there is no such PILOT, SHIP or DAY.");
        for (int day : new int[] {-1, 400, LEAST, MOST}) {
            Check.throwing(x, "tide(" + day + ", 0)", Check.INDEX, () -> x.tide(day, 0));
            Check.throwing(x, "tide(" + day + ", 201)", Check.INDEX, () -> x.tide(day, 201));
        }
    }

    private static void tideOfTheFull() {
        Check.sentence("Promise 4", "UnsupportedOperationException: it has 24");
        for (int day : new int[] {0, 398, 399}) {
            PilotStation x = new PilotStation();
            x.ship(true, 1, 1, 0, -1, false);
            for (int told = 1; told <= 24; told++) {
                Check.due("tide()", x.tide(day, 1), told);
            }
            Check.throwing(x, "the 25th", Check.FULL, () -> x.tide(day, 1));
            Check.sentence("Terms 4, below", "Of several exceptions the one told first is thrown");
            Check.throwing(x, "the 25th, of no DRAUGHT", Check.ARGUMENT, () -> x.tide(day, 201));
            Check.throwing(x, "the 25th, of no DRAUGHT", Check.ARGUMENT, () -> x.tide(day, -1));
        }
    }

    private static void tideAnswers() {
        Check.sentence("Promise 4", "A DRAUGHT comes to the end of a DAY's row (which there is then): how many it has.");
        PilotStation x = new PilotStation();
        x.ship(true, 1, 10, 0, -1, false);
        Check.due("of another DAY", x.tide(3, 10), 1);
        Check.due("of its own", x.tide(4, 9), 1);
        Check.due("of its own", x.tide(4, 10), 2);
        Check.due("of another DAY", x.tide(3, 9), 2);
        Check.due("the first of DAY 3", x.window(0, 72), true);
        Check.due("the second of DAY 3", x.window(0, 73), false);
        Check.due("the first of DAY 4", x.window(0, 96), false);
        Check.due("the second of DAY 4", x.window(0, 97), true);
        Check.due("a DRAUGHT of 0 makes a row too", x.tide(5, 0), 1);
        Check.due("there was one", x.tear(5), true);
    }

    private static void tear() {
        Check.sentence("Promise 5", "A DAY has no row any more: whether there was one.");
        PilotStation x = new PilotStation();
        x.ship(true, 1, 10, 0, -1, false);
        for (int day : new int[] {0, 1, 399}) {
            Check.open(x, day);
        }
        Check.due("tear(1)", x.tear(1), true);
        Check.due("tear(1) again", x.tear(1), false);
        for (int hour = 24; hour < 48; hour++) {
            Check.due("no WINDOW at " + hour, x.window(0, hour), false);
        }
        Check.due("the DAY ahead", x.window(0, 23), true);
        Check.due("tear(399)", x.tear(399), true);
        Check.due("no WINDOW at the last HOUR", x.window(0, 9599), false);
        Check.due("a new row begins at CLOCK 0", x.tide(1, 10), 1);
        Check.due("a WINDOW again", x.window(0, 24), true);
        Check.due("what was told before is gone", x.window(0, 25), false);
        Check.sentence("Terms 4, below", "IndexOutOfBoundsException: there is no such PILOT, SHIP or DAY.");
        for (int day : new int[] {-1, 400, LEAST, MOST}) {
            Check.throwing(x, "tear(" + day + ")", Check.INDEX, () -> x.tear(day));
        }
    }

    private static void boatThrows() {
        Check.sentence("Promise 6", "IllegalArgumentException: clocks (bit 0 for CLOCK 0) is not 0 to 16777215, or seats none");
        PilotStation x = new PilotStation();
        Check.due("the least", x.boat(0, 1), 0);
        Check.due("the greatest", x.boat(16777215, 20), 1);
        for (int clocks : new int[] {-1, 16777216, LEAST, MOST, 1 << 24 | 1, 1 << 31 | 1}) {
            Check.throwing(x, "boat(" + clocks + ", 1)", Check.ARGUMENT, () -> x.boat(clocks, 1));
        }
        for (int seats : new int[] {0, -1, 21, LEAST, MOST}) {
            Check.throwing(x, "boat(1, " + seats + ")", Check.ARGUMENT, () -> x.boat(1, seats));
        }
        Check.due("the next number", x.boat(1, 1), 2);
        Check.due("bit 0 for CLOCK 0", x.seats(0, true), 21);
        Check.due("bit 0 for no other", x.seats(1, true), 20);
    }

    private static void boatOfTheFull() {
        Check.sentence("Promise 6", "UnsupportedOperationException: there are 12");
        PilotStation x = new PilotStation();
        for (int b = 0; b < 12; b++) {
            Check.due("boat()", x.boat(0, 1), b);
        }
        Check.throwing(x, "the 13th", Check.FULL, () -> x.boat(Check.ALL_DAY, 1));
        Check.sentence("Terms 4, below", "Of several exceptions the one told first is thrown");
        Check.throwing(x, "the 13th, of no CLOCKS", Check.ARGUMENT, () -> x.boat(-1, 1));
        Check.throwing(x, "the 13th, of no SEATS", Check.ARGUMENT, () -> x.boat(0, 21));
    }

    private static void road() {
        Check.sentence("Promise 7", "The ROAD has so many HOURS from now on. IllegalArgumentException: not 0 to 5.");
        PilotStation x = Check.seniors(1);
        x.boat(Check.ALL_DAY, 1);
        x.ship(true, 50, 1, 0, -1, false);
        x.road(0);
        x.road(5);
        for (int hours : new int[] {-1, 6, LEAST, MOST}) {
            Check.throwing(x, "road(" + hours + ")", Check.ARGUMENT, () -> x.road(hours));
        }
        Check.hoursTo(x, 6);
        Check.due("still 5", x.look(0, 3), 3);
        x.hour();
        Check.due("through", x.look(0, 3), 0);
    }

    private static void rest() {
        Check.sentence("Promise 8", "BASE, NIGHTS, TWICE from now on. IllegalArgumentException: one is not 0 to 48.");
        PilotStation x = Check.seniors(1);
        x.boat(Check.ALL_DAY, 1);
        x.road(0);
        x.ship(true, 50, 1, 1, -1, false);
        x.ship(true, 50, 1, 10, -1, false);
        x.rest(48, 48, 48);
        x.rest(0, 0, 0);
        x.rest(1, 2, 3);
        for (int wrong : new int[] {-1, 49, LEAST, MOST}) {
            Check.throwing(x, "BASE " + wrong, Check.ARGUMENT, () -> x.rest(wrong, 0, 0));
            Check.throwing(x, "NIGHTS " + wrong, Check.ARGUMENT, () -> x.rest(0, wrong, 0));
            Check.throwing(x, "TWICE " + wrong, Check.ARGUMENT, () -> x.rest(0, 0, wrong));
        }
        Check.hoursTo(x, 2);
        Check.due("still BASE 1 and NIGHTS 2", x.look(0, 4), 5);
        Check.hoursTo(x, 11);
        Check.due("still BASE 1 and TWICE 3", x.look(0, 4), 15);
    }

    private static void offAnswers() {
        Check.sentence("Promise 9", "A DAY is OFF for a PILOT, or not: whether that is another state than before.");
        PilotStation x = new PilotStation();
        Check.pilots(x, 0, 2);
        for (int day : new int[] {0, 1, 398, 399}) {
            Check.due("not OFF at first, DAY " + day, x.off(0, day, false), false);
            Check.due("OFF, DAY " + day, x.off(0, day, true), true);
            Check.due("OFF again, DAY " + day, x.off(0, day, true), false);
        }
        Check.due("how many", x.look(0, 10), 4);
        Check.due("of another PILOT", x.look(1, 10), 0);
        Check.due("not OFF, DAY 399", x.off(0, 399, false), true);
        Check.due("not OFF again, DAY 399", x.off(0, 399, false), false);
        Check.due("how many", x.look(0, 10), 3);
        for (int day = 0; day < 400; day++) {
            x.off(1, day, true);
        }
        Check.due("all of them", x.look(1, 10), 400);
    }

    private static void offThrows() {
        Check.sentence("Terms 4, below", "IndexOutOfBoundsException: there is no such PILOT, SHIP or DAY.");
        PilotStation x = new PilotStation();
        Check.pilots(x, 0, 2);
        Check.due("the last PILOT, the last DAY", x.off(1, 399, true), true);
        for (int pilot : new int[] {-1, 2, LEAST, MOST}) {
            Check.throwing(x, "off(" + pilot + ", 0, true)", Check.INDEX, () -> x.off(pilot, 0, true));
        }
        for (int day : new int[] {-1, 400, LEAST, MOST}) {
            Check.throwing(x, "off(0, " + day + ", true)", Check.INDEX, () -> x.off(0, day, true));
            Check.throwing(x, "off(0, " + day + ", false)", Check.INDEX, () -> x.off(0, day, false));
        }
    }

    private static void willAnswers() {
        Check.sentence("Promise 10", "A PILOT is WILLING, or not: whether that is another state than before.");
        PilotStation x = new PilotStation();
        Check.pilots(x, 0, 2);
        Check.due("WILLING at first", x.will(0, true), false);
        Check.due("not WILLING", x.will(0, false), true);
        Check.due("not WILLING again", x.will(0, false), false);
        Check.due("look(0, 9)", x.look(0, 9), 0);
        Check.due("of another PILOT", x.look(1, 9), 1);
        Check.due("WILLING", x.will(0, true), true);
        Check.due("WILLING again", x.will(0, true), false);
        Check.due("look(0, 9)", x.look(0, 9), 1);
        Check.dueList("no place is lost by that alone", x, 0, 1);
    }

    private static void willThrows() {
        Check.sentence("Terms 4, below", "IndexOutOfBoundsException: there is no such PILOT, SHIP or DAY.");
        PilotStation x = new PilotStation();
        Check.pilots(x, 0, 2);
        Check.due("the last PILOT", x.will(1, false), true);
        for (int pilot : new int[] {-1, 2, LEAST, MOST}) {
            Check.throwing(x, "will(" + pilot + ", false)", Check.INDEX, () -> x.will(pilot, false));
        }
    }
}
