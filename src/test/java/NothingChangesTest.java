import java.util.ArrayList;
import java.util.List;
import java.util.function.Consumer;
import java.util.function.Predicate;

/**
 * "A call that throws, or is refused, changes nothing": also nothing that the face shows only later (the ROAD, the
 * REST, which DAYS are OFF, who came first to the POST, the places to turn back to, whether undo() can). So each such
 * call is put into each place of a full run, and the run must go on as it does without that call.
 */
public final class NothingChangesTest {
    /** A call that is put in, and whether it was one that must change nothing there. */
    private record Idle(String name, Predicate<PilotStation> call) {
    }

    private static final int LEAST = Integer.MIN_VALUE;
    private static final int MOST = Integer.MAX_VALUE;

    private static final List<Consumer<PilotStation>> RUN = new ArrayList<>();
    private static final List<Idle> IDLE = new ArrayList<>();

    public static void main(String[] args) {
        Check.sentence("Terms 4, below", "a call that throws, or is refused, changes nothing");
        makeRun();
        throwing();
        refused();
        telling();
        undone();
        String[] states = statesOfTheRun();
        for (Idle idle : IDLE) {
            for (int place = 0; place <= RUN.size(); place++) {
                putIn(idle, place, states);
            }
        }
        fullOnes();
        Check.end("NothingChangesTest");
    }

    private static void step(Consumer<PilotStation> call) {
        RUN.add(call);
    }

    private static void hours(int many) {
        for (int i = 0; i < many; i++) {
            step(x -> x.hour());
        }
    }

    /** Everything happens in it: all KINDS, both ways, all that is AGAINST, LEARNERS along, turning back, undo(). */
    private static void makeRun() {
        step(x -> Check.open(x, 0));
        step(x -> {
            for (int clock = 0; clock < 15; clock++) {
                x.tide(1, clock == 4 ? 5 : 150);
            }
        });
        step(x -> Check.pilots(x, 1, 2));
        step(x -> x.pilot(0, 120, 80));
        step(x -> Check.pilots(x, 2, 2));
        step(x -> x.pilot(3, 0, 0));
        step(x -> x.pilot(4, 100, 100));
        step(x -> x.boat(0b001100110011001100110011, 1));
        step(x -> x.boat(0b000000000000111111110000, 2));
        step(x -> x.rest(3, 2, 4));
        step(x -> x.road(2));
        step(x -> x.off(2, 1, true));
        step(x -> x.ship(false, 130, 50, 1, -1, true));
        step(x -> x.ship(false, 110, 50, 1, -2, false));
        step(x -> x.ship(false, 90, 50, 2, 6, false));
        hours(2);
        step(x -> Check.due("back(2)", x.back(2), true));
        step(x -> x.ship(true, 90, 50, 3, -1, true));
        hours(1);
        step(x -> Check.due("undo()", x.undo(), true));
        hours(2);
        step(x -> x.will(5, false));
        step(x -> x.ship(true, 150, 50, 5, -2, true));
        step(x -> x.ship(false, 80, 50, 5, -1, false));
        step(x -> x.ship(false, 70, 50, 5, -1, false));
        hours(7);
        step(x -> x.will(5, true));
        step(x -> x.rest(1, 1, 1));
        hours(3);
        step(x -> Check.due("undo()", x.undo(), true));
        hours(2);
        step(x -> x.road(1));
        step(x -> x.ship(true, 50, 150, 20, 2, true));
        step(x -> x.ship(false, 60, 50, 20, -2, true));
        step(x -> Check.pilots(x, 1, 2));
        step(x -> x.ship(false, 300, 50, 23, -1, true));
        step(x -> x.ship(false, 200, 50, 23, -1, false));
        hours(5);
        step(x -> Check.due("back(8)", x.back(8), true));
        hours(3);
        step(x -> Check.due("swap(9, 10)", x.swap(9, 10), true));
        hours(6);
        step(x -> x.tear(0));
        hours(6);
    }

    private static String[] statesOfTheRun() {
        String[] states = new String[RUN.size() + 1];
        PilotStation x = new PilotStation();
        for (int i = 0; i < RUN.size(); i++) {
            states[i] = State.told(x);
            RUN.get(i).accept(x);
        }
        states[RUN.size()] = State.told(x);
        Check.due("ships were led to their END", x.count(6) >= 5, true);
        Check.due("one turned back", x.count(7) >= 1, true);
        Check.due("the TIDE, PILOTS and BOATS kept some", x.count(11) > 0 && x.count(12) > 0 && x.count(13) > 0, true);
        return states;
    }

    private static PilotStation upTo(int place) {
        PilotStation x = new PilotStation();
        for (int i = 0; i < place; i++) {
            RUN.get(i).accept(x);
        }
        return x;
    }

    private static void putIn(Idle idle, int place, String[] states) {
        String where = idle.name + ", put in at " + place;
        PilotStation x = upTo(place);
        if (!idle.call.test(x)) {
            return;
        }
        Check.due(where + ": that nothing has changed", State.told(x).equals(states[place]), true);
        for (int i = place; i < RUN.size(); i++) {
            RUN.get(i).accept(x);
        }
        Check.due(where + ": that the run went on as without it", State.told(x).equals(states[RUN.size()]), true);
        PilotStation plain = upTo(place);
        PilotStation other = upTo(place);
        idle.call.test(other);
        Check.due(where + ": undo() behind it", other.undo(), plain.undo());
        Check.due(where + ": that undo() did the same", State.told(other).equals(State.told(plain)), true);
    }

    private static void throwsAlways(String name, Class<? extends RuntimeException> want, Consumer<PilotStation> call) {
        IDLE.add(new Idle(name, x -> {
            Check.throwing(name, want, () -> call.accept(x));
            return true;
        }));
    }

    private static void throwing() {
        for (int none : new int[] {LEAST, -1, MOST}) {
            throwsAlways("pilot(kind " + none + ")", Check.ARGUMENT, x -> x.pilot(none, 1, 1));
            throwsAlways("pilot(length " + none + ")", Check.ARGUMENT, x -> x.pilot(0, none, 1));
            throwsAlways("pilot(draught " + none + ")", Check.ARGUMENT, x -> x.pilot(0, 1, none));
            throwsAlways("ship(length " + none + ")", Check.ARGUMENT, x -> x.ship(true, none, 1, 0, -1, false));
            throwsAlways("ship(draught " + none + ")", Check.ARGUMENT, x -> x.ship(true, 1, none, 0, -1, false));
            throwsAlways("ship(hour " + none + ")", Check.ARGUMENT, x -> x.ship(true, 1, 1, none, -1, false));
            throwsAlways("tide(day " + none + ")", Check.INDEX, x -> x.tide(none, 1));
            throwsAlways("tide(draught " + none + ")", Check.ARGUMENT, x -> x.tide(1, none));
            throwsAlways("tear(" + none + ")", Check.INDEX, x -> x.tear(none));
            throwsAlways("boat(clocks " + none + ")", Check.ARGUMENT, x -> x.boat(none, 1));
            throwsAlways("boat(seats " + none + ")", Check.ARGUMENT, x -> x.boat(Check.ALL_DAY, none));
            throwsAlways("road(" + none + ")", Check.ARGUMENT, x -> x.road(none));
            throwsAlways("rest(base " + none + ")", Check.ARGUMENT, x -> x.rest(none, 0, 0));
            throwsAlways("rest(nights " + none + ")", Check.ARGUMENT, x -> x.rest(0, none, 0));
            throwsAlways("rest(twice " + none + ")", Check.ARGUMENT, x -> x.rest(0, 0, none));
            throwsAlways("off(pilot " + none + ")", Check.INDEX, x -> x.off(none, 0, true));
            throwsAlways("will(pilot " + none + ")", Check.INDEX, x -> x.will(none, false));
            throwsAlways("back(" + none + ")", Check.INDEX, x -> x.back(none));
            throwsAlways("swap(" + none + ", 0)", Check.INDEX, x -> x.swap(none, 0));
            throwsAlways("may(" + none + ", 0)", Check.INDEX, x -> x.may(none, 0));
            throwsAlways("window(" + none + ", 0)", Check.INDEX, x -> x.window(none, 0));
            throwsAlways("look(" + none + ", 0)", Check.INDEX, x -> x.look(none, 0));
            throwsAlways("craft(" + none + ", 0)", Check.INDEX, x -> x.craft(none, 0));
        }
        throwingAtTheEdge();
    }

    private static void throwingAtTheEdge() {
        throwsAlways("pilot(5, 1, 1)", Check.ARGUMENT, x -> x.pilot(5, 1, 1));
        throwsAlways("pilot(0, 401, 1)", Check.ARGUMENT, x -> x.pilot(0, 401, 1));
        throwsAlways("pilot(0, 1, 201)", Check.ARGUMENT, x -> x.pilot(0, 1, 201));
        throwsAlways("ship(length 0)", Check.ARGUMENT, x -> x.ship(false, 0, 1, 0, -1, false));
        throwsAlways("ship(length 401)", Check.ARGUMENT, x -> x.ship(false, 401, 1, 0, -1, false));
        throwsAlways("ship(draught 0)", Check.ARGUMENT, x -> x.ship(false, 1, 0, 0, -1, false));
        throwsAlways("ship(draught 201)", Check.ARGUMENT, x -> x.ship(false, 1, 201, 0, -1, false));
        throwsAlways("ship(hour 9600)", Check.ARGUMENT, x -> x.ship(false, 1, 1, 9600, -1, false));
        throwsAlways("ship(wants -3)", Check.ARGUMENT, x -> x.ship(false, 1, 1, 0, -3, false));
        throwsAlways("ship(wants nobody)", Check.INDEX, x -> x.ship(false, 1, 1, 0, x.count(1), false));
        throwsAlways("tide(400, 1)", Check.INDEX, x -> x.tide(400, 1));
        throwsAlways("tide(1, 201)", Check.ARGUMENT, x -> x.tide(1, 201));
        throwsAlways("tear(400)", Check.INDEX, x -> x.tear(400));
        throwsAlways("boat(16777216, 1)", Check.ARGUMENT, x -> x.boat(16777216, 1));
        throwsAlways("boat(.., 0)", Check.ARGUMENT, x -> x.boat(Check.ALL_DAY, 0));
        throwsAlways("boat(.., 21)", Check.ARGUMENT, x -> x.boat(Check.ALL_DAY, 21));
        throwsAlways("road(6)", Check.ARGUMENT, x -> x.road(6));
        throwsAlways("rest(49, 0, 0)", Check.ARGUMENT, x -> x.rest(49, 0, 0));
        throwsAlways("rest(0, 49, 0)", Check.ARGUMENT, x -> x.rest(0, 49, 0));
        throwsAlways("rest(0, 0, 49)", Check.ARGUMENT, x -> x.rest(0, 0, 49));
        throwsAlways("off(nobody)", Check.INDEX, x -> x.off(x.count(1), 0, true));
        throwsAlways("off(.., 400)", Check.INDEX, x -> x.off(0, 400, true));
        throwsAlways("will(nobody)", Check.INDEX, x -> x.will(x.count(1), false));
        throwsAlways("back(none)", Check.INDEX, x -> x.back(x.count(2)));
        throwsAlways("swap(0, none)", Check.INDEX, x -> x.swap(0, x.count(2)));
        IDLE.add(new Idle("tide() of a full row", NothingChangesTest::tideOfAFullRow));
        IDLE.add(new Idle("look(0, 11)", x -> whatOfNone(x.count(1), () -> x.look(0, 11))));
        IDLE.add(new Idle("craft(0, 10)", x -> whatOfNone(x.count(2), () -> x.craft(0, 10))));
    }

    private static boolean tideOfAFullRow(PilotStation x) {
        boolean full = x.count(2) > 0 && x.window(0, 23);
        if (full) {
            Check.throwing("tide() of a full row", Check.FULL, () -> x.tide(0, 1));
        }
        return full;
    }

    private static boolean whatOfNone(int many, Runnable call) {
        if (many > 0) {
            Check.throwing("another what", Check.ARGUMENT, call);
        }
        return many > 0;
    }

    /** Where back(), swap() or undo() do what they can, they are none of those that are refused. */
    private static void refused() {
        for (int s = 0; s < 11; s++) {
            int ship = s;
            IDLE.add(new Idle("back(" + s + ")", x -> ship < x.count(2) && !x.back(ship)));
            for (int t = 0; t < 11; t++) {
                int other = t;
                IDLE.add(new Idle("swap(" + s + ", " + t + ")",
                        x -> Math.max(ship, other) < x.count(2) && !x.swap(ship, other)));
            }
        }
        IDLE.add(new Idle("undo()", x -> !x.undo()));
    }

    private static void telling() {
        IDLE.add(new Idle("list(0)", x -> x.list(0) >= -1));
        IDLE.add(new Idle("asked(0, 0)", x -> x.asked(0, 0) >= -1));
        IDLE.add(new Idle("seats(5, true)", x -> x.seats(5, true) >= 0));
        IDLE.add(new Idle("fair()", x -> x.fair() >= 0));
        IDLE.add(new Idle("all that is told", x -> !State.told(x).isEmpty()));
    }

    /** An hour() and its undo() leave all as it was but those asked, and undo() refuses behind them. */
    private static void undone() {
        String[] states = statesOfTheRun();
        for (int place = 0; place < RUN.size(); place++) {
            PilotStation x = upTo(place);
            x.hour();
            Check.due("undo() at " + place, x.undo(), true);
            if (undoneNext(place)) {
                continue;
            }
            for (int i = place; i < RUN.size(); i++) {
                RUN.get(i).accept(x);
            }
            Check.due("hour() and undo() at " + place + ": that the run went on as without them",
                    State.told(x).equals(states[RUN.size()]), true);
        }
    }

    /** Whether the run calls undo() from this place on with no hour() ahead of it. */
    private static boolean undoneNext(int place) {
        PilotStation x = upTo(place);
        for (int i = place; i < RUN.size(); i++) {
            int now = x.count(0);
            RUN.get(i).accept(x);
            if (x.count(0) != now) {
                return x.count(0) < now;
            }
        }
        return false;
    }

    /** With 60 PILOTS, 400 SHIPS and 12 BOATS, those calls throw, and an hour() goes on as without them. */
    private static void fullOnes() {
        PilotStation plain = full();
        PilotStation other = full();
        for (int i = 0; i < 4; i++) {
            Check.throwing(other, "pilot()", Check.FULL, () -> other.pilot(1, 1, 1));
            Check.throwing(other, "ship()", Check.FULL, () -> other.ship(false, 400, 1, 0, -1, false));
            Check.throwing(other, "boat()", Check.FULL, () -> other.boat(Check.ALL_DAY, 20));
            Check.throwing(other, "tide()", Check.FULL, () -> other.tide(0, 0));
            Check.due("hour()", other.hour(), plain.hour());
            Check.due("that both are the same", State.told(other).equals(State.told(plain)), true);
        }
        Check.throwing(other, "pilot()", Check.FULL, () -> other.pilot(1, 1, 1));
        Check.due("undo()", other.undo(), true);
    }

    private static PilotStation full() {
        PilotStation x = Check.openFor(1);
        Check.pilots(x, 0, 60);
        for (int b = 0; b < 12; b++) {
            x.boat(1 << b, 1);
        }
        for (int s = 0; s < 400; s++) {
            x.ship(s % 2 == 0, 1 + s, 1, 0, -1, false);
        }
        return x;
    }
}
