/** Promises 12 to 14: ships that turn back, ships that change leaders, hours that are undone. */
public final class TurningTest {
    private static final Class<IndexOutOfBoundsException> INDEX = IndexOutOfBoundsException.class;

    public static void main(String[] args) {
        backOut();
        backIn();
        backToPlaces();
        backToAShorterList();
        backOfASwapped();
        swaps();
        undoOfAll();
        undoOfSeatsBack();
        undoOnce();
        undoIsRefused();
        undoBehindBackAndSwap();
        backBehindUndo();
        Check.end("TurningTest");
    }

    private static PilotStation seniors(int many) {
        PilotStation x = Check.openFor(2);
        for (int p = 0; p < many; p++) {
            x.pilot(1, 0, 0);
        }
        return x;
    }

    private static void backOut() {
        PilotStation x = seniors(1);
        x.ship(false, 100, 1, 0, -1, false);
        x.ship(false, 90, 1, 0, -1, false);
        Check.due("it waits", x.back(0), false);
        x.hour();
        Check.due("back", x.back(0), true);
        int[] turned = {3, 1, -1, -1, -1, 0, 0, 0, 100, 1};
        for (int what = 0; what < turned.length; what++) {
            Check.due("turned back: craft(0, " + what + ")", x.craft(0, what), turned[what]);
        }
        Check.due("at the station", x.look(0, 3), 0);
        Check.due("not aboard", x.look(0, 8), -1);
        Check.due("rested as before", x.look(0, 4), 0);
        Check.dueList("in the list", x, 0);
        Check.due("only once", x.back(0), false);
        Check.due("turned back", x.count(7), 1);
        x.hour();
        Check.due("it does not wait again", x.craft(0, 0), 3);
        Check.due("the other goes", x.craft(1, 2), 0);
        Check.due("what it was kept stays told", x.craft(1, 6), 1);
        x.hour();
        Check.due("it has come to its END", x.back(1), false);
        Check.due("no turn of a ship that turned back", x.look(0, 5), 1);
        Check.throwing("back(-1)", INDEX, () -> x.back(-1));
        Check.throwing("back(2)", INDEX, () -> x.back(2));
        x.ship(true, 300, 1, 0, -1, false);
        x.pilot(1, 0, 0);
        x.boat(16777215, 1);
        x.hour();
        x.hour();
        Check.due("led since an hour", x.craft(2, 0), 1);
        Check.due("too late", x.back(2), false);
    }

    private static void backIn() {
        PilotStation x = seniors(2);
        x.rest(0, 0, 0);
        x.ship(false, 50, 1, 1, 1, false);
        x.ship(true, 50, 1, 3, 0, false);
        x.boat(1 << 2, 1);
        x.boat(1 << 3, 1);
        Check.hours(x, 3);
        Check.due("led", x.craft(1, 0), 1);
        Check.due("back", x.back(1), true);
        Check.due("from the station to the post", x.look(0, 3), 1);
        x.hour();
        Check.due("the other was there longer", x.look(1, 3), 0);
        Check.due("they came at NOW", x.look(0, 3), 1);
        x.hour();
        Check.due("with the next boat", x.look(0, 3), 0);
    }

    private static void backToPlaces() {
        PilotStation x = Check.openFor(1);
        int[] kinds = {0, 2, 1, 0, 1, 0};
        for (int kind : kinds) {
            x.pilot(kind, 50, 50);
        }
        x.will(2, false);
        x.ship(false, 100, 1, 0, -2, true);
        x.pilot(1, 0, 0);
        Check.due("goes", x.hour(), 1);
        Check.due("leader", x.craft(0, 2), 4);
        Check.due("second one", x.craft(0, 3), 6);
        Check.due("learner", x.craft(0, 4), 1);
        Check.dueList("unwilling at the end", x, 0, 3, 5, 2);
        Check.due("back", x.back(0), true);
        Check.dueList("lesser places first", x, 0, 1, 3, 5, 4, 2, 6);
        for (int p : new int[] {1, 4, 6}) {
            Check.due("at the station", x.look(p, 3), 0);
            Check.due("not aboard", x.look(p, 8), -1);
        }
        for (int what = 2; what <= 4; what++) {
            Check.due("turned back: craft(0, " + what + ")", x.craft(0, what), -1);
        }
    }

    private static void backToAShorterList() {
        PilotStation x = seniors(4);
        for (int i = 0; i < 4; i++) {
            x.ship(false, 100 - i, 1, 0, -1, false);
        }
        Check.due("all go", x.hour(), 4);
        Check.due("back", x.back(3), true);
        Check.dueList("at the end", x, 3);
        Check.due("back", x.back(1), true);
        Check.dueList("also at the end", x, 3, 1);
        Check.due("back", x.back(0), true);
        Check.dueList("at the front", x, 0, 3, 1);
        Check.due("back", x.back(2), true);
        Check.dueList("at place 2", x, 0, 3, 2, 1);
    }

    private static void backOfASwapped() {
        PilotStation x = seniors(3);
        x.ship(false, 100, 1, 0, -1, false);
        x.ship(false, 90, 1, 0, -1, false);
        x.hour();
        Check.due("swap", x.swap(1, 0), true);
        Check.due("back", x.back(0), true);
        Check.dueList("pilot 1 at place 1", x, 2, 1);
        Check.due("still aboard", x.look(0, 8), 1);
        Check.due("led by", x.craft(1, 2), 0);
        Check.due("swap with one turned back", x.swap(0, 1), false);
    }

    private static void swaps() {
        PilotStation x = Check.openFor(1);
        x.pilot(0, 400, 200);
        x.pilot(0, 300, 200);
        x.pilot(0, 200, 50);
        x.pilot(1, 0, 0);
        x.pilot(3, 0, 0);
        x.boat(16777215, 9);
        x.pilot(1, 0, 0);
        x.ship(false, 350, 9, 0, 0, false);
        x.ship(false, 300, 9, 0, 1, false);
        x.ship(false, 200, 9, 0, 2, false);
        x.ship(true, 200, 9, 0, 3, false);
        x.ship(false, 10, 9, 0, -2, false);
        x.ship(false, 10, 9, 5, -1, false);
        Check.due("waiting ones", x.swap(0, 1), false);
        Check.due("all go", x.hour(), 5);
        Check.due("one ship", x.swap(0, 0), false);
        Check.due("1 may not lead 0", x.swap(0, 1), false);
        Check.due("2 may not lead 1", x.swap(2, 1), false);
        Check.due("OUT and IN", x.swap(0, 3), false);
        Check.due("a second one", x.swap(0, 4), false);
        Check.due("a second one", x.swap(4, 0), false);
        Check.due("one waits", x.swap(5, 0), false);
        Check.due("nothing changed", x.craft(0, 2), 0);
        Check.throwing("swap(0, 6)", INDEX, () -> x.swap(0, 6));
        Check.throwing("swap(-1, 0)", INDEX, () -> x.swap(-1, 0));
        Check.throwing("swap(6, 6)", INDEX, () -> x.swap(6, 6));

        PilotStation y = seniors(2);
        y.ship(false, 350, 9, 0, -1, false);
        y.ship(false, 50, 9, 0, -1, false);
        y.hour();
        Check.due("swap", y.swap(0, 1), true);
        Check.due("leader of 0", y.craft(0, 2), 1);
        Check.due("leader of 1", y.craft(1, 2), 0);
        Check.due("aboard of", y.look(0, 8), 1);
        Check.due("aboard of", y.look(1, 8), 0);
        y.pilot(1, 0, 0);
        y.pilot(1, 0, 0);
        y.pilot(1, 0, 0);
        y.ship(false, 60, 9, 0, -1, false);
        y.ship(false, 40, 9, 0, -2, false);
        y.hour();
        Check.due("too late", y.swap(0, 1), false);
        Check.due("too late for one", y.swap(0, 2), false);
        Check.due("too late for the other", y.swap(2, 0), false);
        Check.due("one has a second one", y.swap(2, 3), false);
        Check.due("the other has a second one", y.swap(3, 2), false);
        Check.due("pilot 0 led for one hour", y.look(0, 6), 1);
        Check.due("pilot 1 is led on", y.look(1, 3), 2);
    }

    private static void undoOfAll() {
        PilotStation x = seniors(3);
        x.boat(16777215, 1);
        x.rest(3, 3, 3);
        x.will(2, false);
        x.ship(false, 50, 1, 0, -1, false);
        x.ship(true, 70, 1, 0, -2, false);
        x.ship(true, 60, 200, 0, -1, false);
        x.ship(false, 150, 9, 4, -1, false);
        x.pilot(2, 0, 0);
        x.ship(false, 300, 9, 20, -2, true);
        x.ship(false, 20, 9, 46, -1, false);
        for (int i = 0; i < 50; i++) {
            String before = State.of(x);
            int went = x.hour();
            String behind = State.of(x);
            int asked = x.count(14);
            Check.due("undo at " + i, x.undo(), true);
            Check.due("as ahead of it at " + i, State.of(x).equals(before), true);
            Check.due("nobody asked", x.count(14), 0);
            Check.due("nobody asked", x.asked(0, 0), -1);
            Check.due("once more at " + i, x.hour(), went);
            Check.due("the same at " + i, State.of(x).equals(behind), true);
            Check.due("the same asked", x.count(14), asked);
        }
        Check.due("two were led with a learner", x.craft(4, 3) != -1 && x.craft(4, 4) != -1, true);
        Check.due("tides kept one waiting", x.count(11) > 0, true);
        Check.due("pilots or boats kept one waiting", x.count(12) > 0 && x.count(13) > 0, true);
        Check.due("ships were led", x.count(6) > 1, true);
    }

    /** Who went to the STATION in an hour() that is undone was at the POST as long as before. */
    private static void undoOfSeatsBack() {
        PilotStation x = seniors(2);
        x.ship(false, 50, 1, 1, 1, false);
        x.ship(false, 50, 1, 2, 0, false);
        x.boat(1 << 4, 1);
        Check.hours(x, 5);
        for (int i = 0; i < 3; i++) {
            x.hour();
            Check.due("the longest went", x.look(1, 3), 0);
            Check.due("the other did not", x.look(0, 3), 1);
            Check.due("undo", x.undo(), true);
            Check.due("at the post again", x.look(1, 3), 1);
        }
    }

    private static void undoOnce() {
        PilotStation x = seniors(1);
        Check.due("ahead of any", x.undo(), false);
        Check.hours(x, 2);
        Check.due("undo", x.undo(), true);
        Check.due("now", x.count(0), 1);
        Check.due("it is undone", x.undo(), false);
        Check.due("now", x.count(0), 1);
        x.hour();
        Check.due("undo of a new one", x.undo(), true);
        Check.due("now", x.count(0), 1);
    }

    private static void undoIsRefused() {
        for (int call = 0; call < 9; call++) {
            PilotStation x = seniors(1);
            x.ship(false, 50, 1, 9, -1, false);
            x.hour();
            throwingCalls(x);
            Check.due("undo behind throwing calls", x.undo(), true);
            x.hour();
            oneCall(x, call);
            Check.due("undo behind call " + call, x.undo(), false);
            Check.due("now", x.count(0), 1);
            x.hour();
            Check.due("undo of the next", x.undo(), true);
        }
    }

    private static void oneCall(PilotStation x, int call) {
        switch (call) {
            case 0: x.pilot(0, 0, 0); break;
            case 1: x.ship(false, 1, 1, 1, -1, false); break;
            case 2: x.tide(9, 1); break;
            case 3: x.tear(9); break;
            case 4: x.boat(0, 1); break;
            case 5: x.road(1); break;
            case 6: x.rest(8, 4, 4); break;
            case 7: x.off(0, 0, false); break;
            default: x.will(0, true); break;
        }
    }

    private static void throwingCalls(PilotStation x) {
        Class<IllegalArgumentException> argument = IllegalArgumentException.class;
        Check.throwing("pilot", argument, () -> x.pilot(5, 0, 0));
        Check.throwing("ship", argument, () -> x.ship(false, 0, 1, 1, -1, false));
        Check.throwing("tide", INDEX, () -> x.tide(400, 1));
        Check.throwing("tide", UnsupportedOperationException.class, () -> x.tide(0, 1));
        Check.throwing("tear", INDEX, () -> x.tear(-1));
        Check.throwing("boat", argument, () -> x.boat(-1, 1));
        Check.throwing("road", argument, () -> x.road(6));
        Check.throwing("rest", argument, () -> x.rest(49, 0, 0));
        Check.throwing("off", INDEX, () -> x.off(0, 400, true));
        Check.throwing("will", INDEX, () -> x.will(1, true));
    }

    private static void undoBehindBackAndSwap() {
        PilotStation x = seniors(3);
        for (int i = 0; i < 3; i++) {
            x.ship(false, 100 - i, 1, 0, -1, false);
        }
        String before = State.of(x);
        x.hour();
        Check.due("swap", x.swap(0, 1), true);
        Check.due("back", x.back(0), true);
        Check.due("undo", x.undo(), true);
        Check.due("as before", State.of(x).equals(before), true);
        Check.due("it waits", x.craft(0, 0), 0);
    }

    /** Undone to the hour at which it went, a ship may turn back, to the places of the hour() in which it went. */
    private static void backBehindUndo() {
        PilotStation x = seniors(3);
        x.ship(false, 100, 1, 0, 1, false);
        x.ship(false, 90, 1, 0, 2, false);
        x.hour();
        x.hour();
        Check.due("too late", x.back(0), false);
        Check.due("undo", x.undo(), true);
        Check.due("swap", x.swap(0, 1), true);
        Check.due("swap", x.swap(0, 1), true);
        Check.due("back", x.back(1), true);
        Check.dueList("at the end", x, 0, 2);
        Check.due("back", x.back(0), true);
        Check.dueList("at its place", x, 0, 1, 2);
        Check.due("undone but once", x.undo(), false);
    }
}
