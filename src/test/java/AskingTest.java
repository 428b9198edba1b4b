/** Promises 15 to 23: the calls that only tell, with the edges and the wrong inputs of each. */
public final class AskingTest {
    private static final Class<IllegalArgumentException> ARGUMENT = IllegalArgumentException.class;
    private static final Class<IndexOutOfBoundsException> INDEX = IndexOutOfBoundsException.class;

    public static void main(String[] args) {
        whoMayLead();
        windows();
        seats();
        places();
        askedKept();
        looks();
        crafts();
        fairness();
        counts();
        Check.end("AskingTest");
    }

    private static void whoMayLead() {
        PilotStation x = new PilotStation();
        for (int kind = 0; kind <= 4; kind++) {
            x.pilot(kind, 100, 50);
        }
        x.pilot(4, 100, 50);
        int[][] ships = {{100, 50, -1}, {101, 50, -1}, {100, 51, -1}, {100, 50, -2}, {101, 50, -2},
            {100, 50, 4}, {101, 50, 4}, {100, 51, 4}, {100, 50, 0}};
        for (int[] s : ships) {
            x.ship(false, s[0], s[1], 0, s[2], false);
        }
        for (int s = 0; s < ships.length; s++) {
            boolean fits = ships[s][0] <= 100 && ships[s][1] <= 50;
            Check.due("a pilot, ship " + s, x.may(0, s), fits);
            Check.due("a senior, ship " + s, x.may(1, s), true);
            Check.due("a learner, ship " + s, x.may(2, s), false);
            Check.due("a second, ship " + s, x.may(3, s), s == 3 || s == 4);
            Check.due("a retired, ship " + s, x.may(4, s), s == 5);
            Check.due("another retired, ship " + s, x.may(5, s), false);
        }
        Check.throwing("may(-1, 0)", INDEX, () -> x.may(-1, 0));
        Check.throwing("may(6, 0)", INDEX, () -> x.may(6, 0));
        Check.throwing("may(0, -1)", INDEX, () -> x.may(0, -1));
        Check.throwing("may(0, 9)", INDEX, () -> x.may(0, 9));
    }

    private static void windows() {
        PilotStation x = Check.openFor(1);
        x.tide(1, 99);
        x.tide(1, 100);
        x.ship(true, 1, 100, 0, -1, false);
        Check.due("first", x.window(0, 0), true);
        Check.due("last of the day", x.window(0, 23), true);
        Check.due("too deep", x.window(0, 24), false);
        Check.due("deep enough", x.window(0, 25), true);
        Check.due("no more told", x.window(0, 26), false);
        Check.due("no row", x.window(0, 48), false);
        for (int hour : new int[] {-1, -24, Integer.MIN_VALUE, 9600, 10000, Integer.MAX_VALUE}) {
            Check.due("window(0, " + hour + ")", x.window(0, hour), false);
        }
        Check.throwing("window(1, 0)", INDEX, () -> x.window(1, 0));
        Check.throwing("window(-1, -1)", INDEX, () -> x.window(-1, -1));
    }

    private static void seats() {
        PilotStation x = new PilotStation();
        x.boat(1 | 1 << 23, 3);
        x.boat(1 << 22 | 1 << 23, 5);
        int[][] due = {{0, 3, 0}, {1, 0, 3}, {2, 0, 0}, {22, 5, 0}, {23, 8, 5}, {24, 3, 8}, {25, 0, 3},
            {9576, 3, 8}, {9599, 8, 5}, {-1, 0, 0}, {9600, 0, 0}, {Integer.MIN_VALUE, 0, 0}, {Integer.MAX_VALUE, 0, 0}};
        for (int[] d : due) {
            Check.due("seats(" + d[0] + ", true)", x.seats(d[0], true), d[1]);
            Check.due("seats(" + d[0] + ", false)", x.seats(d[0], false), d[2]);
        }
    }

    private static void places() {
        PilotStation x = Check.openFor(1);
        for (int p = 0; p < 3; p++) {
            x.pilot(1, 0, 0);
        }
        Check.dueList("at first", x, 0, 1, 2);
        Check.due("list(-1)", x.list(-1), -1);
        Check.due("list at most", x.list(Integer.MAX_VALUE), -1);
        Check.due("list at least", x.list(Integer.MIN_VALUE), -1);
        x.ship(false, 50, 1, 0, 1, false);
        x.hour();
        Check.dueList("one taken", x, 0, 2);
        Check.due("place", x.look(2, 7), 1);
        Check.due("no place", x.look(1, 7), -1);
    }

    private static void askedKept() {
        PilotStation x = Check.openFor(1);
        for (int p = 0; p < 60; p++) {
            x.pilot(2, 0, 0);
        }
        for (int s = 0; s < 6; s++) {
            x.ship(false, 10 + s, 1, 1, -1, false);
        }
        Check.due("ahead of any", x.asked(0, 0), -1);
        x.hour();
        Check.due("all asked", x.count(14), 360);
        Check.due("first ship", x.asked(0, 0), 5);
        Check.due("number 299, ship", x.asked(299, 0), 1);
        Check.due("number 299, pilot", x.asked(299, 1), 59);
        Check.due("number 299, against", x.asked(299, 2), 1);
        for (int what = 0; what < 3; what++) {
            Check.due("number 300", x.asked(300, what), -1);
            Check.due("number -1", x.asked(-1, what), -1);
            Check.due("number at most", x.asked(Integer.MAX_VALUE, what), -1);
        }
        Check.due("another what", x.asked(0, 3), -1);
        Check.due("another what", x.asked(0, -1), -1);
        x.undo();
        Check.due("behind undo", x.asked(0, 0), -1);
        Check.due("behind undo", x.count(14), 0);
        x.tear(0);
        x.hour();
        Check.due("nobody", x.asked(0, 0), -1);
        Check.due("nobody", x.count(14), 0);
    }

    private static void looks() {
        PilotStation x = Check.openFor(1);
        x.pilot(0, 300, 20);
        x.off(0, 7, true);
        x.ship(false, 300, 20, 0, -1, false);
        x.hour();
        int[] aboard = {0, 300, 20, 2, 0, 0, 0, -1, 0, 1, 1};
        for (int what = 0; what < aboard.length; what++) {
            Check.due("aboard: look(0, " + what + ")", x.look(0, what), aboard[what]);
        }
        x.will(0, false);
        Check.hours(x, 4);
        int[] ended = {0, 300, 20, 1, 17, 1, 4, -1, -1, 0, 1};
        for (int what = 0; what < ended.length; what++) {
            Check.due("ended: look(0, " + what + ")", x.look(0, what), ended[what]);
        }
        Check.hours(x, 11);
        Check.due("not yet rested", x.look(0, 7), -1);
        x.hour();
        Check.due("rested", x.look(0, 7), 0);
        Check.throwing("look(0, -1)", ARGUMENT, () -> x.look(0, -1));
        Check.throwing("look(0, 11)", ARGUMENT, () -> x.look(0, 11));
        Check.throwing("look(1, 11)", INDEX, () -> x.look(1, 11));
        Check.throwing("look(-1, 0)", INDEX, () -> x.look(-1, 0));
    }

    private static void crafts() {
        PilotStation x = Check.openFor(1);
        x.pilot(1, 0, 0);
        x.pilot(1, 0, 0);
        x.pilot(2, 0, 0);
        x.ship(false, 199, 77, 0, -2, true);
        x.hour();
        int[] due = {1, 1, 0, 1, 2, 0, 0, 0, 199, 77};
        for (int what = 0; what < due.length; what++) {
            Check.due("led: craft(0, " + what + ")", x.craft(0, what), due[what]);
        }
        Check.hours(x, 2);
        due[0] = 2;
        for (int what = 0; what < due.length; what++) {
            Check.due("ended: craft(0, " + what + ")", x.craft(0, what), due[what]);
        }
        Check.throwing("craft(0, -1)", ARGUMENT, () -> x.craft(0, -1));
        Check.throwing("craft(0, 10)", ARGUMENT, () -> x.craft(0, 10));
        Check.throwing("craft(1, 10)", INDEX, () -> x.craft(1, 10));
        Check.throwing("craft(-1, 0)", INDEX, () -> x.craft(-1, 0));
    }

    private static void fairness() {
        PilotStation x = Check.openFor(1);
        x.rest(0, 0, 0);
        x.boat(16777215, 9);
        x.pilot(0, 100, 50);
        x.pilot(1, 100, 50);
        x.pilot(0, 101, 50);
        x.pilot(0, 100, 51);
        for (int s = 0; s < 3; s++) {
            x.ship(false, 10, 1, 0, 0, false);
        }
        Check.hours(x, 9);
        Check.due("three turns", x.look(0, 5), 3);
        Check.due("no two alike", x.fair(), 0);
        x.pilot(0, 100, 50);
        Check.due("two alike", x.fair(), 3);
        x.off(4, 300, true);
        Check.due("other days off", x.fair(), 0);
        x.off(0, 301, true);
        Check.due("as many days off", x.fair(), 3);
        x.ship(false, 10, 1, 0, 4, false);
        Check.hours(x, 2);
        Check.due("one turn", x.look(4, 5), 1);
        Check.due("the difference", x.fair(), 2);
        x.pilot(0, 100, 50);
        x.off(5, 0, true);
        Check.due("the greatest", x.fair(), 3);
    }

    private static void counts() {
        PilotStation x = Check.openFor(1);
        x.pilot(1, 0, 0);
        x.pilot(1, 0, 0);
        x.pilot(1, 0, 0);
        x.boat(1 << 9, 1);
        x.ship(false, 250, 1, 0, -2, false);
        x.ship(true, 40, 1, 0, -1, false);
        x.ship(false, 30, 1, 1, -1, false);
        x.ship(false, 20, 1, 9599, -1, false);
        x.ship(false, 10, 1, 1, -1, false);
        x.hour();
        int[] first = {1, 3, 5, 1, 3, 2, 0, 0, 0, 0, 0, 0, 1, 1, 4};
        for (int what = 0; what < first.length; what++) {
            Check.due("at 1: count(" + what + ")", x.count(what), first[what]);
        }
        x.back(2);
        Check.due("turned back", x.count(7), 1);
        Check.due("led", x.count(5), 1);
        Check.due("list", x.count(10), 1);
        Check.hours(x, 3);
        // Ship 0 came to its END (3 hours, two pilots), ship 4 took at 2 who had turned back, ships 1 and 3 wait.
        int[] fourth = {4, 3, 5, 1, 2, 0, 2, 1, 3, 7, 0, 0, 3, 2, 0};
        for (int what = 0; what < fourth.length; what++) {
            Check.due("at 4: count(" + what + ")", x.count(what), fourth[what]);
        }
        for (int what : new int[] {-1, 15, Integer.MIN_VALUE, Integer.MAX_VALUE}) {
            Check.due("count(" + what + ")", x.count(what), -1);
        }
    }
}
