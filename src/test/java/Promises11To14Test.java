import java.util.function.Consumer;

/** The boundary cases of the document's promises 11 to 14: hour() at its end, back(), swap(), and when undo() refuses. */
public final class Promises11To14Test {
    private static final int LEAST = Integer.MIN_VALUE;
    private static final int MOST = Integer.MAX_VALUE;

    public static void main(String[] args) {
        hourAnswers();
        hourAtTheLast();
        backThrows();
        backIsTrueOnce();
        swapThrows();
        undoOfNone();
        undoOfOne();
        undoOfTheUndone();
        undoOfTheLatestAlone();
        undoBehindCallsItNames();
        undoBehindThoseThatThrew();
        undoBehindCallsItDoesNotName();
        undoBehindARefusedUndo();
        undoThatIsRefusedKeepsThoseAsked();
        undoBringsAllBack();
        undoBringsThePlacesBack();
        undoBringsTheWillingBackInTheList();
        undoBringsTheWaitsBack();
        undoBringsBackWhoCameFirst();
        undoBringsEndsAndRoadsBack();
        Check.end("Promises11To14Test");
    }

    private static void hourAnswers() {
        Check.sentence("Promise 11", "The next HOUR, as told in 3: how many SHIPS went.");
        PilotStation x = Check.seniors(60);
        for (int s = 0; s < 61; s++) {
            x.ship(false, 50, 1, 2, -1, false);
        }
        Check.due("none", x.hour(), 0);
        Check.due("as many as there are PILOTS", x.hour(), 60);
        Check.due("none more", x.hour(), 0);
    }

    private static void hourAtTheLast() {
        Check.sentence("Promise 11", "NONE, and nothing happens, if NOW is 9599.");
        PilotStation x = new PilotStation();
        Check.open(x, 399);
        Check.pilots(x, 1, 2);
        x.boat(Check.ALL_DAY, 1);
        x.ship(false, 50, 1, 9598, -1, false);
        x.ship(true, 60, 1, 9599, -1, false);
        Check.hoursTo(x, 9598);
        Check.due("it is not 9599", x.hour(), 1);
        Check.due("NOW", x.count(0), 9599);
        x.ship(false, 50, 1, 0, -1, false);
        String before = State.told(x);
        for (int i = 0; i < 3; i++) {
            Check.due("hour()", x.hour(), -1);
            Check.due("that nothing has happened", State.told(x).equals(before), true);
        }
        Check.due("undo() is refused as before, for ship() was called since", x.undo(), false);
        Check.due("a SHIP that went at NOW may turn back still", x.back(1), true);
        PilotStation y = new PilotStation();
        Check.hoursTo(y, 9599);
        Check.due("hour()", y.hour(), -1);
        Check.due("the latest hour() that happened is undone", y.undo(), true);
        Check.due("NOW", y.count(0), 9598);
        Check.due("hour()", y.hour(), 0);
        Check.due("NOW", y.count(0), 9599);
    }

    private static void backThrows() {
        Check.sentence("Terms 4, below", "IndexOutOfBoundsException: there is no such PILOT, SHIP or DAY.");
        PilotStation x = Check.seniors(2);
        x.ship(false, 50, 1, 0, -1, false);
        x.ship(false, 40, 1, 0, -1, false);
        x.hour();
        for (int ship : new int[] {-1, 2, LEAST, MOST}) {
            Check.throwing(x, "back(" + ship + ")", Check.INDEX, () -> x.back(ship));
        }
        Check.due("the last SHIP", x.back(1), true);
        Check.due("the first SHIP", x.back(0), true);
    }

    private static void backIsTrueOnce() {
        Check.sentence("Promise 12", "A SHIP turns back, as told in 4: true; false, if it did not go at NOW.");
        PilotStation x = Check.seniors(1);
        x.ship(false, 50, 1, 2, -1, false);
        Check.refused(x, "it WAITS", () -> x.back(0));
        x.hour();
        Check.refused(x, "it WAITS", () -> x.back(0));
        x.hour();
        Check.due("it went at NOW", x.back(0), true);
        Check.refused(x, "it turned back", () -> x.back(0));
    }

    private static void swapThrows() {
        Check.sentence("Terms 4, below", "IndexOutOfBoundsException: there is no such PILOT, SHIP or DAY.");
        PilotStation x = Check.seniors(2);
        x.ship(false, 50, 1, 0, -1, false);
        x.ship(false, 40, 1, 0, -1, false);
        x.hour();
        for (int ship : new int[] {-1, 2, LEAST, MOST}) {
            Check.throwing(x, "swap(" + ship + ", 0)", Check.INDEX, () -> x.swap(ship, 0));
            Check.throwing(x, "swap(0, " + ship + ")", Check.INDEX, () -> x.swap(0, ship));
            Check.throwing(x, "swap(" + ship + ", " + ship + ")", Check.INDEX, () -> x.swap(ship, ship));
        }
        Check.due("the last SHIP and the first", x.swap(1, 0), true);
    }

    private static void undoOfNone() {
        Check.sentence("Promise 14", "false, if there was none");
        PilotStation x = new PilotStation();
        Check.refused(x, "undo()", x::undo);
        Check.pilots(x, 1, 1);
        Check.refused(x, "undo()", x::undo);
    }

    private static void undoOfOne() {
        Check.sentence("Promise 14", "All is as ahead of the latest hour(): true");
        PilotStation x = new PilotStation();
        x.hour();
        Check.due("undo()", x.undo(), true);
        Check.due("NOW", x.count(0), 0);
    }

    private static void undoOfTheUndone() {
        Check.sentence("Promise 14", "or it is undone");
        PilotStation x = Check.seniors(1);
        Check.hours(x, 3);
        Check.due("undo()", x.undo(), true);
        Check.refused(x, "undo() again", x::undo);
        Check.refused(x, "and again", x::undo);
        Check.due("NOW", x.count(0), 2);
    }

    private static void undoOfTheLatestAlone() {
        Check.sentence("Promise 14", "All is as ahead of the latest hour(): true");
        PilotStation x = Check.seniors(1);
        for (int i = 0; i < 5; i++) {
            x.hour();
            Check.due("undo() of each", x.undo(), true);
            x.hour();
            Check.due("NOW", x.count(0), i + 1);
        }
        Check.due("undo()", x.undo(), true);
        Check.refused(x, "not of the one before", x::undo);
        Check.due("NOW", x.count(0), 4);
    }

    /** A station with two SHIPS that went at NOW, 2, a third one that waits, and a row of DAY 9. */
    private static PilotStation atTwo() {
        PilotStation x = Check.seniors(3);
        x.tide(9, 1);
        x.ship(false, 60, 1, 2, -1, false);
        x.ship(false, 50, 1, 2, -1, false);
        x.ship(true, 40, 1, 2, -1, false);
        Check.due("none", x.hour(), 0);
        Check.due("both", x.hour(), 2);
        return x;
    }

    private static void undoRefusedBehind(String call, Consumer<PilotStation> run) {
        PilotStation x = atTwo();
        run.accept(x);
        Check.refused(x, "undo() behind " + call, x::undo);
        Check.due("NOW", x.count(0), 2);
        String before = State.of(x);
        x.hour();
        Check.due("undo() of a new hour() behind " + call, x.undo(), true);
        Check.due("that all is as ahead of it", State.of(x).equals(before), true);
        Check.refused(x, "no more than that", x::undo);
    }

    private static void undoBehindCallsItNames() {
        Check.sentence("Promise 14", "or one of pilot(), ship(), tide(), tear(), boat(), road(), rest(), off(), will()"
                + " was called since and did not throw");
        undoRefusedBehind("pilot()", x -> x.pilot(0, 1, 1));
        undoRefusedBehind("ship()", x -> x.ship(true, 1, 1, 0, -1, false));
        undoRefusedBehind("tide()", x -> x.tide(9, 1));
        undoRefusedBehind("tear() of a row", x -> x.tear(9));
        undoRefusedBehind("tear() of none", x -> x.tear(10));
        undoRefusedBehind("boat()", x -> x.boat(1, 1));
        undoRefusedBehind("boat() that never leaves", x -> x.boat(0, 1));
        undoRefusedBehind("road()", x -> x.road(2));
        undoRefusedBehind("road() as before", x -> x.road(1));
        undoRefusedBehind("rest()", x -> x.rest(1, 2, 3));
        undoRefusedBehind("rest() as before", x -> x.rest(8, 4, 4));
        undoRefusedBehind("off()", x -> x.off(0, 5, true));
        undoRefusedBehind("off() as before", x -> x.off(0, 5, false));
        undoRefusedBehind("will()", x -> x.will(0, false));
        undoRefusedBehind("will() as before", x -> x.will(0, true));
    }

    private static void undoDoneBehind(PilotStation x, String call, Class<? extends RuntimeException> want, Runnable run) {
        x.hour();
        Check.throwing(x, call, want, run);
        Check.due("undo() behind " + call + " that threw", x.undo(), true);
        Check.due("NOW", x.count(0), 2);
    }

    private static void undoBehindThoseThatThrew() {
        Check.sentence("Promise 14", "was called since and did not throw");
        PilotStation x = atTwo();
        undoDoneBehind(x, "pilot()", Check.ARGUMENT, () -> x.pilot(5, 1, 1));
        undoDoneBehind(x, "ship()", Check.ARGUMENT, () -> x.ship(true, 0, 1, 0, -1, false));
        undoDoneBehind(x, "ship()", Check.INDEX, () -> x.ship(true, 1, 1, 0, 3, false));
        undoDoneBehind(x, "tide()", Check.INDEX, () -> x.tide(400, 1));
        undoDoneBehind(x, "tide()", Check.ARGUMENT, () -> x.tide(9, 201));
        undoDoneBehind(x, "tide()", Check.FULL, () -> x.tide(0, 1));
        undoDoneBehind(x, "tear()", Check.INDEX, () -> x.tear(400));
        undoDoneBehind(x, "boat()", Check.ARGUMENT, () -> x.boat(1, 21));
        undoDoneBehind(x, "road()", Check.ARGUMENT, () -> x.road(6));
        undoDoneBehind(x, "rest()", Check.ARGUMENT, () -> x.rest(8, 4, 49));
        undoDoneBehind(x, "off()", Check.INDEX, () -> x.off(3, 0, true));
        undoDoneBehind(x, "off()", Check.INDEX, () -> x.off(0, 400, true));
        undoDoneBehind(x, "will()", Check.INDEX, () -> x.will(3, true));
        PilotStation y = new PilotStation();
        Check.pilots(y, 0, 60);
        for (int b = 0; b < 12; b++) {
            y.boat(0, 1);
        }
        for (int s = 0; s < 400; s++) {
            y.ship(true, 1, 1, 9599, -1, false);
        }
        Check.hours(y, 2);
        undoDoneBehind(y, "pilot()", Check.FULL, () -> y.pilot(0, 1, 1));
        undoDoneBehind(y, "ship()", Check.FULL, () -> y.ship(true, 1, 1, 0, -1, false));
        undoDoneBehind(y, "boat()", Check.FULL, () -> y.boat(0, 1));
    }

    private static void undoDoneBehind(String call, Consumer<PilotStation> run) {
        PilotStation x = Check.seniors(3);
        x.tide(9, 1);
        x.ship(false, 60, 1, 2, -1, false);
        x.ship(false, 50, 1, 2, -1, false);
        x.ship(true, 40, 1, 2, -1, false);
        x.hour();
        String before = State.of(x);
        Check.due("both", x.hour(), 2);
        run.accept(x);
        Check.due("undo() behind " + call, x.undo(), true);
        Check.due("that all is as ahead of hour(), behind " + call, State.of(x).equals(before), true);
    }

    private static void undoBehindCallsItDoesNotName() {
        Check.sentence("Promise 14", "All is as ahead of the latest hour(): true");
        undoDoneBehind("back()", x -> Check.due("back()", x.back(0), true));
        undoDoneBehind("back() of both", x -> Check.due("back()", x.back(0) && x.back(1), true));
        undoDoneBehind("back() that was refused", x -> Check.due("back()", x.back(2), false));
        undoDoneBehind("swap()", x -> Check.due("swap()", x.swap(0, 1), true));
        undoDoneBehind("swap() and back()", x -> Check.due("both", x.swap(0, 1) && x.back(1), true));
        undoDoneBehind("swap() that was refused", x -> Check.due("swap()", x.swap(0, 2), false));
        undoDoneBehind("may()", x -> x.may(0, 0));
        undoDoneBehind("window()", x -> x.window(0, 0));
        undoDoneBehind("seats()", x -> x.seats(0, true));
        undoDoneBehind("list()", x -> x.list(0));
        undoDoneBehind("asked()", x -> x.asked(0, 0));
        undoDoneBehind("look()", x -> x.look(0, 0));
        undoDoneBehind("craft()", x -> x.craft(0, 0));
        undoDoneBehind("fair()", x -> x.fair());
        undoDoneBehind("count()", x -> x.count(0));
        undoDoneBehind("back() that threw", x -> Check.throwing("back()", Check.INDEX, () -> x.back(3)));
        undoDoneBehind("swap() that threw", x -> Check.throwing("swap()", Check.INDEX, () -> x.swap(0, 3)));
        undoDoneBehind("look() that threw", x -> Check.throwing("look()", Check.ARGUMENT, () -> x.look(0, 11)));
        undoDoneBehind("nothing", x -> { });
    }

    private static void undoBehindARefusedUndo() {
        Check.sentence("Terms 4, below", "a call that throws, or is refused, changes nothing");
        PilotStation x = atTwo();
        x.will(0, true);
        Check.refused(x, "undo()", x::undo);
        x.hour();
        Check.due("undo()", x.undo(), true);
        Check.due("NOW", x.count(0), 2);
    }

    private static void undoThatIsRefusedKeepsThoseAsked() {
        Check.sentence("Terms 4, below", "a call that throws, or is refused, changes nothing");
        PilotStation x = atTwo();
        x.will(2, false);
        Check.refused(x, "undo()", x::undo);
        Check.dueAsked("as the hour() asked", x, Check.row(0, 0, 0), Check.row(1, 1, 0), Check.row(2, 2, 3));
    }

    private static void undoBringsAllBack() {
        Check.sentence("Promise 14", "All is as ahead of the latest hour(): true");
        PilotStation x = Check.seniors(3);
        Check.pilots(x, 2, 1);
        x.rest(2, 1, 1);
        x.boat(Check.ALL_DAY, 2);
        for (int s = 0; s < 12; s++) {
            x.ship(s % 2 == 0, 30 + 30 * s, 1 + s, s, s % 3 == 0 ? -2 : -1, s % 4 == 0);
        }
        for (int i = 0; i < 47; i++) {
            String before = State.of(x);
            int went = x.hour();
            String behind = State.told(x);
            Check.due("undo() at " + i, x.undo(), true);
            Check.due("that all is as ahead of it at " + i, State.of(x).equals(before), true);
            Check.dueAsked("behind undo()", x);
            Check.due("the same hour() again at " + i, x.hour(), went);
            Check.due("that all is as behind it at " + i, State.told(x).equals(behind), true);
        }
        Check.due("all have gone by then", x.count(6), 12);
    }

    private static void undoBringsThePlacesBack() {
        Check.sentence("Promise 14", "All is as ahead of the latest hour(): true");
        PilotStation x = Check.seniors(4);
        x.ship(false, 250, 1, 1, 2, false);
        x.ship(false, 240, 1, 2, 0, false);
        x.hour();
        x.hour();
        Check.dueList("2 and 0 went", x, 1, 3);
        Check.due("undo()", x.undo(), true);
        Check.dueList("2 went", x, 0, 1, 3);
        Check.due("a SHIP that went at this NOW may turn back", x.back(0), true);
        Check.dueList("to the place of the hour() in which it went", x, 0, 1, 2, 3);
    }

    private static void undoBringsTheWillingBackInTheList() {
        Check.sentence("Promise 14", "All is as ahead of the latest hour(): true");
        PilotStation x = Check.seniors(3);
        x.will(0, false);
        x.ship(false, 50, 1, 0, 0, false);
        x.hour();
        Check.dueList("0 went to the end", x, 1, 2, 0);
        x.undo();
        Check.dueList("as ahead of it", x, 0, 1, 2);
        Check.dueWaits("as ahead of it", x, 0, 0, 0, 0);
    }

    private static void undoBringsTheWaitsBack() {
        Check.sentence("Promise 14", "All is as ahead of the latest hour(): true");
        PilotStation x = new PilotStation();
        for (int hour = 0; hour < 5; hour++) {
            x.tide(0, 50);
        }
        Check.pilots(x, 2, 1);
        Check.pilots(x, 1, 1);
        x.ship(false, 30, 51, 0, -1, false);
        x.ship(false, 20, 50, 0, 0, false);
        x.ship(true, 10, 50, 0, 1, false);
        for (int waited = 0; waited < 3; waited++) {
            Check.due("none goes", x.hour(), 0);
            Check.due("undo()", x.undo(), true);
            Check.dueWaits("as ahead of it", x, 0, waited, 0, 0);
            Check.dueWaits("as ahead of it", x, 1, 0, waited, 0);
            Check.dueWaits("as ahead of it", x, 2, 0, 0, waited);
            x.hour();
            for (int what = 11; what <= 13; what++) {
                Check.due("count(" + what + ")", x.count(what), waited + 1);
            }
        }
    }

    private static void undoBringsBackWhoCameFirst() {
        Check.sentence("Promise 14", "All is as ahead of the latest hour(): true");
        PilotStation x = Check.seniors(2);
        x.rest(40, 0, 0);
        x.ship(false, 50, 1, 1, 1, false);
        x.ship(false, 50, 1, 2, 0, false);
        x.boat(1 << 4, 1);
        Check.hoursTo(x, 2);
        x.rest(0, 0, 0);
        Check.hoursTo(x, 5);
        Check.due("1 came at 2, but rests long", x.look(1, 4), 42);
        for (int i = 0; i < 3; i++) {
            x.hour();
            Check.due("1 went to the STATION", x.look(1, 3), 0);
            Check.due("0 came at 3", x.look(0, 3), 1);
            Check.due("undo()", x.undo(), true);
            Check.due("1 is at the POST again", x.look(1, 3), 1);
        }
    }

    private static void undoBringsEndsAndRoadsBack() {
        Check.sentence("Promise 14", "All is as ahead of the latest hour(): true");
        PilotStation x = Check.seniors(1);
        x.rest(0, 0, 5);
        x.boat(Check.ALL_DAY, 1);
        x.ship(true, 50, 1, 1, -1, false);
        x.hour();
        x.hour();
        Check.due("END at 2", x.look(0, 5), 1);
        x.undo();
        Check.due("ABOARD again", x.look(0, 3), 2);
        Check.due("no TURN", x.look(0, 5), 0);
        x.hour();
        Check.due("no END ahead of this one: TWICE is not more", x.look(0, 4), 2);
        Check.due("on the ROAD", x.look(0, 3), 3);
        x.hour();
        Check.due("at the STATION", x.look(0, 3), 0);
        x.undo();
        Check.due("on the ROAD again", x.look(0, 3), 3);
        Check.dueList("not in the LIST", x);
    }
}
