/** Promises 1 to 10: what is made and told, with the edges and the wrong inputs of each call. */
public final class MakingTest {
    private static final Class<IllegalArgumentException> ARGUMENT = IllegalArgumentException.class;
    private static final Class<IndexOutOfBoundsException> INDEX = IndexOutOfBoundsException.class;
    private static final Class<UnsupportedOperationException> FULL = UnsupportedOperationException.class;

    public static void main(String[] args) {
        newObject();
        pilots();
        ships();
        tides();
        boats();
        roads();
        rests();
        daysOff();
        wills();
        Check.end("MakingTest");
    }

    private static void newObject() {
        PilotStation x = new PilotStation();
        for (int what = 0; what <= 14; what++) {
            Check.due("new: count(" + what + ")", x.count(what), 0);
        }
        Check.due("NONE", PilotStation.NONE, -1);
        Check.dueList("new", x);
        Check.due("new: seats(5, true)", x.seats(5, true), 0);
        Check.due("new: fair()", x.fair(), 0);
        Check.due("new: undo()", x.undo(), false);
        Check.due("new: asked(0, 0)", x.asked(0, 0), -1);
        Check.due("new: tear(0)", x.tear(0), false);
        Check.throwing("new: look(0, 0)", INDEX, () -> x.look(0, 0));
        Check.throwing("new: craft(0, 0)", INDEX, () -> x.craft(0, 0));
    }

    private static void pilots() {
        PilotStation x = new PilotStation();
        Check.due("pilot", x.pilot(4, 400, 200), 0);
        Check.due("pilot", x.pilot(0, 0, 0), 1);
        Check.due("kind", x.look(0, 0), 4);
        Check.due("length", x.look(0, 1), 400);
        Check.due("draught", x.look(0, 2), 200);
        int[] ofNew = {0, 0, 0, 0, 0, 0, 0, 1, -1, 1, 0};
        for (int what = 0; what < ofNew.length; what++) {
            Check.due("new pilot: look(1, " + what + ")", x.look(1, what), ofNew[what]);
        }
        Check.dueList("new ones come at once", x, 0, 1);
        int[][] wrong = {{-1, 1, 1}, {5, 1, 1}, {0, -1, 1}, {0, 401, 1}, {0, 1, -1}, {0, 1, 201}};
        for (int[] w : wrong) {
            Check.throwing("pilot(" + w[0] + ", " + w[1] + ", " + w[2] + ")", ARGUMENT, () -> x.pilot(w[0], w[1], w[2]));
        }
        Check.due("throwing changed nothing", x.count(1), 2);
        for (int i = 2; i < 60; i++) {
            Check.due("pilot", x.pilot(1, 1, 1), i);
        }
        Check.throwing("pilot 61", FULL, () -> x.pilot(1, 1, 1));
        Check.throwing("pilot 61 of no kind", ARGUMENT, () -> x.pilot(5, 1, 1));
        Check.due("60 pilots", x.count(1), 60);
        Check.due("60 in the list", x.count(10), 60);
    }

    private static void ships() {
        PilotStation x = new PilotStation();
        x.pilot(0, 1, 1);
        Check.due("ship", x.ship(true, 400, 200, 9599, -2, true), 0);
        Check.due("ship", x.ship(false, 1, 1, 0, 0, false), 1);
        int[] ofNew = {0, -1, -1, -1, -1, 0, 0, 0, 400, 200};
        for (int what = 0; what < ofNew.length; what++) {
            Check.due("new ship: craft(0, " + what + ")", x.craft(0, what), ofNew[what]);
        }
        int[][] wrong = {{0, 1, 1, -1}, {401, 1, 1, -1}, {1, 0, 1, -1}, {1, 201, 1, -1}, {1, 1, -1, -1},
            {1, 1, 9600, -1}, {1, 1, 1, -3}, {0, 1, 1, 1}};
        for (int[] w : wrong) {
            Check.throwing("ship(" + w[0] + ", " + w[1] + ", " + w[2] + ", " + w[3] + ")", ARGUMENT,
                    () -> x.ship(false, w[0], w[1], w[2], w[3], false));
        }
        Check.throwing("wants no pilot", INDEX, () -> x.ship(false, 1, 1, 1, 1, false));
        Check.throwing("wants no pilot", INDEX, () -> x.ship(false, 1, 1, 1, Integer.MAX_VALUE, false));
        Check.due("throwing changed nothing", x.count(2), 2);
        for (int i = 2; i < 400; i++) {
            Check.due("ship", x.ship(false, 1 + i % 400, 1, 1, -1, false), i);
        }
        Check.throwing("ship 401", FULL, () -> x.ship(false, 1, 1, 1, -1, false));
        Check.throwing("ship 401 wants no pilot", INDEX, () -> x.ship(false, 1, 1, 1, 1, false));
        Check.throwing("ship 401 of no length", ARGUMENT, () -> x.ship(false, 0, 1, 1, 1, false));
        Check.due("400 ships", x.count(4), 400);
    }

    private static void tides() {
        PilotStation x = new PilotStation();
        x.ship(false, 1, 50, 0, -1, false);
        Check.due("window without a row", x.window(0, 0), false);
        Check.due("tide", x.tide(399, 50), 1);
        Check.due("tide", x.tide(399, 49), 2);
        Check.due("window of the last day", x.window(0, 399 * 24), true);
        Check.due("too deep", x.window(0, 399 * 24 + 1), false);
        Check.due("the row is too short", x.window(0, 399 * 24 + 2), false);
        Check.throwing("tide(-1, 1)", INDEX, () -> x.tide(-1, 1));
        Check.throwing("tide(400, 1)", INDEX, () -> x.tide(400, 1));
        Check.throwing("tide(400, 201)", INDEX, () -> x.tide(400, 201));
        Check.throwing("tide(0, -1)", ARGUMENT, () -> x.tide(0, -1));
        Check.throwing("tide(0, 201)", ARGUMENT, () -> x.tide(0, 201));
        Check.due("a throwing tide makes no row", x.tear(0), false);
        for (int i = 1; i <= 24; i++) {
            Check.due("tide", x.tide(0, i == 24 ? 200 : 0), i);
        }
        Check.throwing("tide 25", FULL, () -> x.tide(0, 1));
        Check.throwing("tide 25 of no draught", ARGUMENT, () -> x.tide(0, 201));
        Check.due("the last clock", x.window(0, 23), true);
        Check.due("the one ahead", x.window(0, 22), false);
        Check.due("tear", x.tear(0), true);
        Check.due("tear again", x.tear(0), false);
        Check.due("torn", x.window(0, 23), false);
        Check.due("tide behind tear begins anew", x.tide(0, 0), 1);
        x.tear(399);
        Check.due("nothing is left of a torn row", x.window(0, 399 * 24), false);
        x.tide(399, 50);
        Check.due("told anew", x.window(0, 399 * 24), true);
        for (int i = 0; i < 3; i++) {
            x.tide(7, 200);
        }
        x.tear(7);
        x.tide(7, 200);
        Check.due("told anew", x.window(0, 7 * 24), true);
        Check.due("what was told ahead of tear is gone", x.window(0, 7 * 24 + 1), false);
        Check.due("the other day's row stays", x.window(0, 399 * 24), true);
        Check.throwing("tear(-1)", INDEX, () -> x.tear(-1));
        Check.throwing("tear(400)", INDEX, () -> x.tear(400));
    }

    private static void boats() {
        PilotStation x = new PilotStation();
        Check.due("boat", x.boat(0, 20), 0);
        Check.due("boat", x.boat(16777215, 1), 1);
        Check.due("boat", x.boat(1 << 23, 7), 2);
        Check.throwing("boat(-1, 1)", ARGUMENT, () -> x.boat(-1, 1));
        Check.throwing("boat(16777216, 1)", ARGUMENT, () -> x.boat(16777216, 1));
        Check.throwing("boat(1, 0)", ARGUMENT, () -> x.boat(1, 0));
        Check.throwing("boat(1, 21)", ARGUMENT, () -> x.boat(1, 21));
        Check.due("three boats", x.count(3), 3);
        Check.due("out at 23", x.seats(23, true), 8);
        Check.due("back at 24", x.seats(24, false), 8);
        for (int i = 3; i < 12; i++) {
            Check.due("boat", x.boat(1, 20), i);
        }
        Check.throwing("boat 13", FULL, () -> x.boat(1, 1));
        Check.throwing("boat 13 without seats", ARGUMENT, () -> x.boat(1, 0));
        Check.due("out at 0", x.seats(0, true), 181);
    }

    private static void roads() {
        for (int road = 0; road <= 5; road++) {
            PilotStation x = onePilotBroughtIn(road);
            Check.due("road " + road + " at the END", x.look(0, 3), road == 0 ? 0 : 3);
            Check.due("not aboard any more", x.look(0, 8), -1);
            x.road(road == 0 ? 5 : 0);
            for (int i = 1; i <= road; i++) {
                x.hour();
                Check.due("road " + road + ", " + i + " behind the END", x.look(0, 3), i < road ? 3 : 0);
            }
        }
        PilotStation x = onePilotBroughtIn(-1);
        Check.due("road 1 at first", x.look(0, 3), 3);
        x.hour();
        Check.due("road 1 at first, through", x.look(0, 3), 0);
        Check.throwing("road(-1)", ARGUMENT, () -> x.road(-1));
        Check.throwing("road(6)", ARGUMENT, () -> x.road(6));
    }

    /** A station at the END of a ship that came IN at 1; a road below 0 is not told. */
    private static PilotStation onePilotBroughtIn(int road) {
        PilotStation x = Check.openFor(1);
        x.pilot(1, 0, 0);
        x.boat(1, 1);
        if (road >= 0) {
            x.road(road);
        }
        x.ship(true, 99, 1, 0, -1, false);
        Check.due("goes", x.hour(), 1);
        x.hour();
        Check.due("ended", x.craft(0, 0), 2);
        return x;
    }

    private static void rests() {
        PilotStation x = new PilotStation();
        int[][] wrong = {{-1, 0, 0}, {49, 0, 0}, {0, -1, 0}, {0, 49, 0}, {0, 0, -1}, {0, 0, 49}};
        for (int[] w : wrong) {
            Check.throwing("rest(" + w[0] + ", " + w[1] + ", " + w[2] + ")", ARGUMENT, () -> x.rest(w[0], w[1], w[2]));
        }
        x.rest(48, 48, 48);
        x.rest(0, 0, 0);
        Check.due("8 and 4 at first, by night", restedAfterOut(-1, 0, 0, 1), 2 + 12);
        Check.due("8 at first, by day", restedAfterOut(-1, 0, 0, 6), 7 + 8);
        Check.due("as told, by night", restedAfterOut(48, 47, 5, 5), 6 + 95);
        Check.due("as told, by day", restedAfterOut(48, 47, 5, 20), 21 + 48);
        Check.due("clock 21 is day", restedAfterOut(0, 10, 5, 21), 22);
        Check.due("clock 22 is night", restedAfterOut(0, 10, 5, 22), 23 + 10);
        Check.due("clock 6 is day", restedAfterOut(0, 10, 5, 30), 31);
        Check.due("clock 5 is night", restedAfterOut(0, 10, 5, 29), 30 + 10);
        Check.due("no rest", restedAfterOut(0, 0, 0, 3), 4);
        Check.due("8 and 4 for twice at first", restedAfterTwo(), 19 + 12);
    }

    /** From when on who came in with two ships, with an END at 7 and at 19, is rested. */
    private static int restedAfterTwo() {
        PilotStation y = Check.openFor(1);
        y.pilot(1, 0, 0);
        y.boat(16777215, 1);
        y.ship(true, 50, 1, 6, -1, false);
        y.ship(true, 50, 1, 18, -1, false);
        Check.hours(y, 15);
        Check.due("rested at 15", y.look(0, 7), 0);
        Check.hours(y, 4);
        Check.due("ended", y.craft(1, 0), 2);
        return y.look(0, 4);
    }

    /** From when on the leader of a ship of one hour, gone at an hour, is rested; a base below 0 is not told. */
    private static int restedAfterOut(int base, int nights, int twice, int hour) {
        PilotStation x = Check.openFor(2);
        x.pilot(1, 0, 0);
        if (base >= 0) {
            x.rest(base, nights, twice);
        }
        x.ship(false, 99, 1, hour, -1, false);
        Check.hours(x, hour + 1);
        Check.due("ended", x.craft(0, 0), 2);
        return x.look(0, 4);
    }

    private static void daysOff() {
        PilotStation x = new PilotStation();
        x.pilot(0, 1, 1);
        x.pilot(0, 1, 1);
        Check.due("off", x.off(0, 0, false), false);
        Check.due("off", x.off(0, 0, true), true);
        Check.due("off", x.off(0, 399, true), true);
        Check.due("off again", x.off(0, 399, true), false);
        Check.due("two days off", x.look(0, 10), 2);
        Check.due("the other has none", x.look(1, 10), 0);
        Check.due("on", x.off(0, 0, false), true);
        Check.due("one day off", x.look(0, 10), 1);
        Check.throwing("off(-1, 0)", INDEX, () -> x.off(-1, 0, true));
        Check.throwing("off(2, 0)", INDEX, () -> x.off(2, 0, true));
        Check.throwing("off(0, -1)", INDEX, () -> x.off(0, -1, true));
        Check.throwing("off(0, 400)", INDEX, () -> x.off(0, 400, true));
    }

    private static void wills() {
        PilotStation x = new PilotStation();
        x.pilot(0, 1, 1);
        Check.due("will", x.will(0, true), false);
        Check.due("will not", x.will(0, false), true);
        Check.due("look", x.look(0, 9), 0);
        Check.due("will not again", x.will(0, false), false);
        Check.due("will", x.will(0, true), true);
        Check.due("look", x.look(0, 9), 1);
        Check.throwing("will(-1)", INDEX, () -> x.will(-1, true));
        Check.throwing("will(1)", INDEX, () -> x.will(1, true));
    }
}
