import java.util.Random;

/**
 * Random runs of 512 calls with seeds that are always the same: no call throws but by PilotStation's own throw,
 * and what the face tells agrees with itself behind each call.
 */
public final class RandomRunsTest {
    private static final int RUNS = 400;
    private static final int CALLS = 512;

    private final Random random;
    private final PilotStation x = new PilotStation();
    private final String run;
    /** The state ahead of the latest hour(), while undo() has to bring it back; null when it has to refuse. */
    private String aheadOfHour = null;

    private RandomRunsTest(int seed) {
        random = new Random(seed);
        run = "run " + seed;
    }

    public static void main(String[] args) {
        for (int seed = 0; seed < RUNS; seed++) {
            RandomRunsTest test = new RandomRunsTest(seed);
            test.prepare();
            for (int call = 0; call < CALLS; call++) {
                test.oneCall();
                test.agreesWithItself();
            }
        }
        Check.end("RandomRunsTest");
    }

    /** Many runs would otherwise have no window, no boat and nobody to send. */
    private void prepare() {
        for (int i = 0; i < 24 * 3; i++) {
            x.tide(i / 24, 60 + random.nextInt(141));
        }
        for (int i = 0; i < 4; i++) {
            x.boat(random.nextInt(1 << 24), 1 + random.nextInt(2));
        }
        for (int i = random.nextInt(12); i >= 0; i--) {
            x.pilot(random.nextInt(5), random.nextInt(401), random.nextInt(201));
        }
        x.rest(random.nextInt(6), random.nextInt(4), random.nextInt(4));
    }

    private int near(int count) {
        int bad = random.nextInt(40);
        if (bad == 0) {
            return random.nextBoolean() ? -1 : count;
        }
        if (bad == 1) {
            return random.nextInt();
        }
        return random.nextInt(Math.max(1, count));
    }

    private void oneCall() {
        try {
            call(random.nextInt(100));
        } catch (RuntimeException e) {
            if (!Check.isOwnThrow(e)) {
                e.printStackTrace(System.out);
                Check.due(run + ": a throw from outside", true, false);
            }
        }
    }

    private void call(int choice) {
        if (choice < 35) {
            stepHour();
        } else if (choice < 45) {
            boolean done = x.back(near(x.count(2)));
            Check.due(run + ": back() only of ships that went", !done || x.count(7) > 0, true);
        } else if (choice < 53) {
            x.swap(near(x.count(2)), near(x.count(2)));
        } else if (choice < 60) {
            stepUndo();
        } else if (choice < 85) {
            change(choice - 60);
        } else {
            tell(choice - 85);
        }
    }

    private void stepHour() {
        String before = State.of(x);
        int now = x.count(0);
        int waiting = x.count(4);
        int went = x.hour();
        Check.due(run + ": NOW", x.count(0), now + 1);
        Check.due(run + ": ships that went", went, waiting - x.count(4));
        aheadOfHour = before;
    }

    private void stepUndo() {
        boolean done = x.undo();
        Check.due(run + ": undo()", done, aheadOfHour != null);
        if (done) {
            Check.due(run + ": as ahead of hour()", State.of(x).equals(aheadOfHour), true);
            Check.due(run + ": nobody asked", x.count(14), 0);
        }
        aheadOfHour = null;
    }

    private void change(int choice) {
        int pilots = x.count(1);
        if (choice < 11) {
            int wants = random.nextInt(4) == 0 ? near(pilots) : -1 - random.nextInt(2);
            x.ship(random.nextBoolean(), near(400) + 1, near(200), near(x.count(0) + 9), wants, random.nextBoolean());
        } else if (choice < 13) {
            x.pilot(near(5), near(401), near(201));
        } else if (choice < 16) {
            x.will(near(pilots), random.nextInt(3) > 0);
        } else if (choice < 18) {
            x.off(near(pilots), near(4), random.nextBoolean());
        } else if (choice < 20) {
            x.rest(near(10), near(5), near(5));
        } else if (choice < 22) {
            x.road(near(6));
        } else if (choice < 23) {
            x.boat(near(1 << 24), near(3));
        } else if (choice < 24) {
            x.tide(near(20), near(201));
        } else {
            x.tear(near(random.nextInt(3) == 0 ? 2 : 400));
        }
        // Reached only without a throw: from here on undo() is due to refuse.
        aheadOfHour = null;
    }

    private void tell(int choice) {
        switch (choice) {
            case 0: x.may(near(x.count(1)), near(x.count(2))); break;
            case 1: x.window(near(x.count(2)), near(9600)); break;
            case 2: x.seats(near(9600), random.nextBoolean()); break;
            case 3: x.list(near(61)); break;
            case 4: x.asked(near(301), near(3)); break;
            case 5: x.look(near(x.count(1)), near(11)); break;
            case 6: x.craft(near(x.count(2)), near(10)); break;
            case 7: x.fair(); break;
            default: x.count(near(15)); break;
        }
    }

    private void agreesWithItself() {
        int pilots = x.count(1);
        int listed = 0;
        for (int p = 0; p < pilots; p++) {
            listed += pilotAgrees(p);
        }
        Check.due(run + ": the LIST's length", x.count(10), listed);
        int[] states = new int[4];
        int[] waited = new int[3];
        for (int s = 0; s < x.count(2); s++) {
            shipAgrees(s);
            states[x.craft(s, 0)]++;
            for (int i = 0; i < 3; i++) {
                waited[i] += x.craft(s, 5 + i);
            }
        }
        for (int i = 0; i < 4; i++) {
            Check.due(run + ": count(" + (4 + i) + ")", x.count(4 + i), states[i]);
        }
        for (int i = 0; i < 3; i++) {
            Check.due(run + ": count(" + (11 + i) + ")", x.count(11 + i), waited[i]);
        }
        Check.due(run + ": somebody asked", x.asked(0, 0) != -1, x.count(14) > 0);
    }

    private int pilotAgrees(int p) {
        int where = x.look(p, 3);
        int place = x.look(p, 7);
        int aboard = x.look(p, 8);
        boolean due = where < 2 && x.look(p, 4) <= x.count(0);
        Check.due(run + ": in the LIST is who is ashore and rested, pilot " + p, place != -1, due);
        Check.due(run + ": aboard, pilot " + p, aboard != -1, where == 2);
        if (place != -1) {
            Check.due(run + ": list(" + place + ")", x.list(place), p);
        }
        if (aboard != -1) {
            boolean named = x.craft(aboard, 2) == p || x.craft(aboard, 3) == p || x.craft(aboard, 4) == p;
            Check.due(run + ": the ship names who is aboard, pilot " + p, named, true);
            Check.due(run + ": the ship is led", x.craft(aboard, 0), 1);
        }
        return place == -1 ? 0 : 1;
    }

    private void shipAgrees(int s) {
        int state = x.craft(s, 0);
        int went = x.craft(s, 1);
        int now = x.count(0);
        int end = went + 1 + x.craft(s, 8) / 100;
        Check.due(run + ": went, ship " + s, went != -1, state != 0);
        Check.due(run + ": a leader, ship " + s, x.craft(s, 2) != -1, state == 1 || state == 2);
        if (state == 1 || state == 2) {
            Check.due(run + ": END, ship " + s, state == 2, end <= now);
            Check.due(run + ": the leader may, ship " + s, x.may(x.craft(s, 2), s), true);
        }
        if (state == 1) {
            for (int what = 2; what <= 4; what++) {
                int p = x.craft(s, what);
                Check.due(run + ": aboard of ship " + s, p == -1 || x.look(p, 8) == s, true);
            }
        }
    }
}
