import java.util.Random;

/** Random runs of 512 calls, with seeds that are always the same, in which PilotStation and Model must answer alike. */
public final class ModelTest {
    private static final int RUNS = 300;
    private static final int CALLS = 512;

    private final Random random;
    private final PilotStation x = new PilotStation();
    private final Model m = new Model();
    private final String run;
    private final int lengths;
    private final int hourOften;

    private ModelTest(int seed) {
        random = new Random(1000 + seed);
        run = "run " + seed;
        lengths = seed % 3 == 0 ? 400 : 120;
        hourOften = 25 + seed % 4 * 15;
    }

    public static void main(String[] args) {
        // count(6) to count(13): ENDS, turned back, TURNS, HOURS LED, the LIST, HOURS waited.
        int[] seen = new int[8];
        for (int seed = 0; seed < RUNS; seed++) {
            ModelTest test = new ModelTest(seed);
            test.prepare(seed);
            for (int call = 0; call < CALLS; call++) {
                test.oneCall();
                test.allAlike();
            }
            test.addTo(seen);
        }
        for (int what = 0; what < seen.length; what++) {
            Check.due("the runs saw much of each, count(" + (6 + what) + ")", seen[what] > 500, true);
        }
        Check.end("ModelTest");
    }

    private void addTo(int[] seen) {
        for (int what = 0; what < seen.length; what++) {
            seen[what] += x.count(6 + what);
        }
    }

    private int upTo(int most) {
        return random.nextInt(most + 1);
    }

    private void prepare(int seed) {
        for (int i = 0; i < 24 * 4; i++) {
            tide(i / 24, upTo(9) == 0 ? upTo(60) : 60 + upTo(140));
        }
        for (int i = upTo(3); i > 0; i--) {
            boat(random.nextInt(1 << 24), 1 + upTo(1));
        }
        for (int i = 2 + upTo(seed % 5 == 0 ? 40 : 9); i > 0; i--) {
            pilot();
        }
        rest(upTo(4), upTo(3), upTo(3));
    }

    private void tide(int day, int draught) {
        if (m.told(day) < 24) {
            alike("tide", x.tide(day, draught), m.tide(day, draught));
        } else {
            Check.throwing(run + ": tide() of a full row", Check.FULL, () -> x.tide(day, draught));
        }
    }

    private void boat(int clocks, int seats) {
        if (x.count(3) < 12) {
            alike("boat", x.boat(clocks, seats), m.boat(clocks, seats));
        }
    }

    private void rest(int base, int nights, int twice) {
        x.rest(base, nights, twice);
        m.rest(base, nights, twice);
    }

    private void pilot() {
        if (x.count(1) == 60) {
            return;
        }
        int[] kinds = {0, 0, 1, 1, 1, 2, 2, 3, 4};
        int kind = kinds[random.nextInt(kinds.length)];
        int length = random.nextBoolean() ? 400 : upTo(4) * 100;
        int draught = random.nextBoolean() ? 200 : upTo(4) * 50;
        alike("pilot", x.pilot(kind, length, draught), m.pilot(kind, length, draught));
    }

    private void ship() {
        if (x.count(2) == 400) {
            return;
        }
        boolean in = random.nextBoolean();
        boolean learner = random.nextBoolean();
        int length = 1 + random.nextInt(lengths);
        int draught = 1 + upTo(random.nextBoolean() ? 199 : 50);
        int hour = upTo(x.count(0) + 4);
        int wants = upTo(3) == 0 ? random.nextInt(x.count(1)) : -1 - upTo(1);
        alike("ship", x.ship(in, length, draught, hour, wants, learner), m.ship(in, length, draught, hour, wants, learner));
    }

    private void oneCall() {
        int choice = upTo(99);
        if (choice < hourOften) {
            alike("hour", x.hour(), m.hour());
        } else if (choice < 85) {
            change(choice % 13);
        } else {
            turn(choice - 85);
        }
    }

    private void change(int choice) {
        int someone = random.nextInt(x.count(1));
        boolean on = upTo(2) > 0;
        switch (choice) {
            case 0: pilot(); break;
            case 1: tide(upTo(8), upTo(200)); break;
            case 2:
                int day = upTo(60);
                alike("tear", x.tear(day), m.tear(day));
                break;
            case 3:
                if (upTo(4) == 0) {
                    boat(random.nextInt(1 << 24), 1 + upTo(2));
                }
                break;
            case 4:
                int hours = upTo(5);
                x.road(hours);
                m.road(hours);
                break;
            case 5: rest(upTo(9), upTo(5), upTo(5)); break;
            case 6:
                int off = upTo(5);
                alike("off", x.off(someone, off, !on), m.off(someone, off, !on));
                break;
            case 7: alike("will", x.will(someone, on), m.will(someone, on)); break;
            default: ship(); break;
        }
    }

    private void turn(int choice) {
        if (choice < 3) {
            alike("undo", x.undo(), m.undo());
        } else if (x.count(2) > 0) {
            // The latest ships are the likelier ones to have gone at NOW, but every one has its chance.
            int ship = justWent();
            int other = justWent();
            if (choice < 9) {
                alike("back(" + ship + ")", x.back(ship), m.back(ship));
            } else {
                alike("swap(" + ship + ", " + other + ")", x.swap(ship, other), m.swap(ship, other));
            }
        }
    }

    private int justWent() {
        int ship = random.nextInt(x.count(2));
        for (int i = 0; i < 10 && x.craft(ship, 1) != x.count(0); i++) {
            ship = random.nextInt(x.count(2));
        }
        return ship;
    }

    private void alike(String call, int got, int due) {
        Check.due(run + ", NOW " + x.count(0) + ": " + call, got, due);
    }

    private void alike(String call, boolean got, boolean due) {
        alike(call, got ? 1 : 0, due ? 1 : 0);
    }

    private void allAlike() {
        for (int what = -1; what <= 15; what++) {
            same("count", what, 0, x.count(what), m.count(what));
        }
        same("fair", 0, 0, x.fair(), m.fair());
        for (int p = 0; p < x.count(1); p++) {
            same("list", p, 0, x.list(p), m.list(p));
            for (int what = 0; what <= 10; what++) {
                same("look", p, what, x.look(p, what), m.look(p, what));
            }
        }
        for (int s = 0; s < x.count(2); s++) {
            for (int what = 0; what <= 9; what++) {
                same("craft", s, what, x.craft(s, what), m.craft(s, what));
            }
            int p = random.nextInt(x.count(1));
            int hour = upTo(200);
            same("may", p, s, x.may(p, s) ? 1 : 0, m.may(p, s) ? 1 : 0);
            same("window", s, hour, x.window(s, hour) ? 1 : 0, m.window(s, hour) ? 1 : 0);
        }
        for (int i = 0; i <= Math.min(x.count(14), 301); i++) {
            for (int what = 0; what <= 3; what++) {
                same("asked", i, what, x.asked(i, what), m.asked(i, what));
            }
        }
        int hour = upTo(9700) - 50;
        same("seats out", hour, 0, x.seats(hour, true), m.seats(hour, true));
        same("seats back", hour, 0, x.seats(hour, false), m.seats(hour, false));
    }

    /** The text is made only when it is needed: there are very many of these. */
    private void same(String call, int one, int two, int got, int due) {
        if (got != due) {
            alike(call + "(" + one + ", " + two + ")", got, due);
        }
    }
}
