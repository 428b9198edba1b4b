/** The boundary cases of the document's "Terms" 2: how long a SHIP is led, its END, the ROAD, REST, the LIST. */
public final class Terms2Test {
    public static void main(String[] args) {
        newOnes();
        newOnesLater();
        howLongAShipIsLed();
        endOfAShipOut();
        roadOfEachLength();
        roadAsItIsAtTheEnd();
        turnsAndHoursLed();
        restAtFirst();
        restOfNothing();
        restOfTheMost();
        restByNight();
        restTwiceOfTheFirst();
        restTwiceAtItsEdge();
        restTwiceOfALearner();
        restTwiceBehindTheLast();
        restTwiceAndTurningBack();
        restAsItIsAtTheEnd();
        restedWhenThatHourHasCome();
        toTheListFromTheRoad();
        toTheListAtThePost();
        toTheListByNumbers();
        toTheListBehindTheOthers();
        toTheListAtOnce();
        toTheListUnwillingAndOff();
        fromTheListWhenTaken();
        Check.end("Terms2Test");
    }

    private static void newOnes() {
        Check.sentence("Terms 2", "New ones are at the STATION and RESTED.");
        for (int kind = 0; kind <= 4; kind++) {
            PilotStation x = new PilotStation();
            x.pilot(kind, 1, 1);
            Check.due("at the STATION", x.look(0, 3), 0);
            Check.due("RESTED from", x.look(0, 4), 0);
            Check.due("in the LIST", x.look(0, 7), 0);
            Check.due("not ABOARD", x.look(0, 8), -1);
        }
    }

    private static void newOnesLater() {
        Check.sentence("Terms 2", "New ones are at the STATION and RESTED.");
        PilotStation x = Check.openFor(1);
        Check.hoursTo(x, 7);
        Check.pilots(x, 0, 1);
        Check.due("at the STATION", x.look(0, 3), 0);
        Check.due("RESTED from", x.look(0, 4), 0);
        x.ship(false, 50, 1, 0, -1, false);
        Check.due("it goes with the next HOUR", x.hour(), 1);
    }

    private static void howLongAShipIsLed() {
        Check.sentence("Terms 2", "A SHIP is led for 1 and LENGTH by 100 (rounded down) HOURS from the one on at which it goes.");
        int[] lengths = {1, 99, 100, 199, 200, 299, 300, 399, 400};
        int[] led = {1, 1, 2, 2, 3, 3, 4, 4, 5};
        for (int i = 0; i < lengths.length; i++) {
            PilotStation x = Check.seniors(1);
            x.ship(false, lengths[i], 1, 3, -1, false);
            Check.hoursTo(x, 3);
            for (int hour = 3; hour < 3 + led[i]; hour++) {
                Check.due("LENGTH " + lengths[i] + " is led at " + hour, x.craft(0, 0), 1);
                Check.due("no HOURS LED yet", x.look(0, 6), 0);
                x.hour();
            }
            Check.due("LENGTH " + lengths[i] + " is at its END", x.craft(0, 0), 2);
            Check.due("HOURS LED", x.look(0, 6), led[i]);
        }
    }

    private static void endOfAShipOut() {
        Check.sentence("Terms 2", "At its END those ABOARD of a SHIP OUT are at the POST");
        PilotStation x = Check.seniors(2);
        Check.pilots(x, 2, 1);
        x.ship(false, 50, 1, 0, -2, true);
        x.hour();
        for (int p = 0; p < 3; p++) {
            Check.due("ABOARD, pilot " + p, x.look(p, 3), 2);
            Check.due("of the SHIP, pilot " + p, x.look(p, 8), 0);
        }
        x.hour();
        for (int p = 0; p < 3; p++) {
            Check.due("at the POST, pilot " + p, x.look(p, 3), 1);
            Check.due("ABOARD no more, pilot " + p, x.look(p, 8), -1);
        }
    }

    /** A station with two seniors and a learner, of whom a SHIP IN brings all; its END is at 11. */
    private static PilotStation broughtIn(int road) {
        PilotStation x = Check.seniors(2);
        Check.pilots(x, 2, 1);
        x.rest(0, 0, 0);
        x.road(road);
        x.boat(Check.ALL_DAY, 3);
        x.ship(true, 99, 1, 10, -2, true);
        Check.hoursTo(x, 11);
        Check.due("it came to its END", x.craft(0, 0), 2);
        return x;
    }

    private static void roadOfEachLength() {
        Check.sentence("Terms 2", "of one IN on the ROAD, for as many HOURS as the ROAD has"
                + " (0 to 5; of 0 at the STATION at once), then at the STATION");
        for (int road = 0; road <= 5; road++) {
            PilotStation x = broughtIn(road);
            for (int hour = 11; hour <= 17; hour++) {
                for (int p = 0; p < 3; p++) {
                    Check.due("ROAD " + road + ", pilot " + p + " at " + hour, x.look(p, 3), hour < 11 + road ? 3 : 0);
                    Check.due("ROAD " + road + ", pilot " + p + " is ABOARD no more at " + hour, x.look(p, 8), -1);
                }
                x.hour();
            }
        }
    }

    private static void roadAsItIsAtTheEnd() {
        Check.sentence("Terms 2", "of one IN on the ROAD, for as many HOURS as the ROAD has");
        PilotStation x = broughtIn(2);
        x.road(5);
        x.hour();
        Check.due("still on the ROAD", x.look(0, 3), 3);
        x.hour();
        Check.due("a later ROAD is not theirs", x.look(0, 3), 0);
        PilotStation y = Check.seniors(1);
        y.road(5);
        y.boat(Check.ALL_DAY, 1);
        y.ship(true, 100, 1, 10, -1, false);
        Check.hoursTo(y, 11);
        y.road(0);
        y.hour();
        Check.due("told while the SHIP was led", y.look(0, 3), 0);
    }

    private static void turnsAndHoursLed() {
        Check.sentence("Terms 2", "A LEADER, SECOND ONE (not a LEARNER) then has a TURN more,"
                + " and as many HOURS LED more as it was led.");
        PilotStation x = Check.seniors(2);
        Check.pilots(x, 2, 1);
        x.ship(false, 250, 1, 1, -2, true);
        Check.hoursTo(x, 3);
        for (int p = 0; p < 3; p++) {
            Check.due("no TURN ahead of the END", x.look(p, 5), 0);
            Check.due("no HOURS LED ahead of the END", x.look(p, 6), 0);
        }
        x.hour();
        for (int p = 0; p < 3; p++) {
            Check.due("TURNS, pilot " + p, x.look(p, 5), p < 2 ? 1 : 0);
            Check.due("HOURS LED, pilot " + p, x.look(p, 6), p < 2 ? 3 : 0);
        }
        x.hour();
        Check.due("once only", x.look(0, 5), 1);
        Check.due("all TURNS", x.count(8), 2);
        Check.due("all HOURS LED", x.count(9), 6);
    }

    /**
     * Pilot 0 of a kind with SHIPS IN of one HOUR each, whose ENDS are at the told HOURS if it is RESTED in time: it
     * leads them, or is along as a LEARNER with one senior more for each. The ROAD is 0.
     */
    private static PilotStation endsAt(int kind, int... ends) {
        PilotStation x = Check.openFor(3);
        Check.pilots(x, kind, 1);
        Check.pilots(x, 1, kind == 2 ? ends.length : 0);
        x.road(0);
        x.boat(Check.ALL_DAY, 2);
        for (int i = 0; i < ends.length; i++) {
            x.ship(true, 50, 1, ends[i] - 1, kind == 2 ? 1 + i : 0, kind == 2);
        }
        return x;
    }

    private static void restAtFirst() {
        Check.sentence("Terms 2", "(BASE, NIGHTS, TWICE: 0 to 48, at first 8, 4, 4; as they are at the END.)");
        PilotStation x = endsAt(1, 7);
        Check.hoursTo(x, 7);
        Check.due("BASE", x.look(0, 4), 7 + 8);
        PilotStation y = endsAt(1, 7, 17);
        Check.hoursTo(y, 17);
        Check.due("BASE and TWICE", y.look(0, 4), 17 + 8 + 4);
        PilotStation z = endsAt(1, 5, 23);
        Check.hoursTo(z, 5);
        Check.due("BASE and NIGHTS", z.look(0, 4), 5 + 8 + 4);
        Check.hoursTo(z, 23);
        Check.due("BASE, NIGHTS and TWICE", z.look(0, 4), 23 + 8 + 4 + 4);
    }

    private static void restOfNothing() {
        Check.sentence("Terms 2", "(BASE, NIGHTS, TWICE: 0 to 48, at first 8, 4, 4; as they are at the END.)");
        PilotStation x = endsAt(1, 3, 5);
        x.rest(0, 0, 0);
        Check.hoursTo(x, 3);
        Check.due("RESTED from the END on", x.look(0, 4), 3);
        Check.due("in the LIST at once", x.look(0, 7), 0);
        Check.due("the next SHIP goes with the next HOUR", x.hour(), 1);
        x.hour();
        Check.due("by night and twice in a DAY", x.look(0, 4), 5);
    }

    private static void restOfTheMost() {
        Check.sentence("Terms 2", "(BASE, NIGHTS, TWICE: 0 to 48, at first 8, 4, 4; as they are at the END.)");
        PilotStation x = endsAt(1, 3, 5);
        x.rest(0, 48, 48);
        x.rest(0, 0, 48);
        Check.hoursTo(x, 3);
        Check.due("nothing", x.look(0, 4), 3);
        x.rest(48, 48, 48);
        Check.hoursTo(x, 5);
        Check.due("all of the three", x.look(0, 4), 5 + 144);
        Check.due("not in the LIST", x.look(0, 7), -1);
    }

    private static void restByNight() {
        Check.sentence("Terms 2", "NIGHTS more, if one of the HOURS in which the SHIP was led is NIGHT");
        int[][] rows = {{50, 5, 1}, {50, 6, 0}, {100, 5, 1}, {400, 5, 1}, {400, 6, 0}, {50, 21, 0}, {100, 20, 0},
            {100, 21, 1}, {400, 17, 0}, {400, 18, 1}, {50, 22, 1}, {50, 23, 1}, {50, 24, 1}, {300, 21, 1}};
        for (int[] row : rows) {
            PilotStation x = Check.openFor(2);
            Check.pilots(x, 1, 2);
            Check.pilots(x, 2, 1);
            x.rest(2, 7, 0);
            x.ship(false, row[0], 1, row[1], -2, true);
            int end = row[1] + 1 + row[0] / 100;
            Check.hoursTo(x, end);
            for (int p = 0; p < 3; p++) {
                Check.due("LENGTH " + row[0] + " from " + row[1] + ", pilot " + p, x.look(p, 4), end + 2 + 7 * row[2]);
            }
        }
    }

    private static void restTwiceOfTheFirst() {
        Check.sentence("Terms 2", "TWICE more, if that PILOT's last END before this one (also as a LEARNER)"
                + " was less than 24 HOURS ahead of it");
        for (int end = 2; end <= 30; end += 7) {
            PilotStation x = endsAt(1, end);
            x.rest(1, 0, 9);
            Check.hoursTo(x, end);
            Check.due("there is none before the first END, at " + end, x.look(0, 4), end + 1);
        }
    }

    private static void restTwiceAtItsEdge() {
        Check.sentence("Terms 2", "was less than 24 HOURS ahead of it");
        int[] between = {3, 22, 23, 24, 25};
        for (int hours : between) {
            PilotStation x = endsAt(1, 10, 10 + hours);
            x.rest(1, 0, 9);
            Check.hoursTo(x, 10 + hours);
            Check.due("the second END", x.craft(1, 0), 2);
            Check.due(hours + " HOURS ahead", x.look(0, 4), 10 + hours + 1 + (hours < 24 ? 9 : 0));
        }
    }

    private static void restTwiceOfALearner() {
        Check.sentence("Terms 2", "(also as a LEARNER)");
        for (int hours : new int[] {23, 24}) {
            PilotStation x = endsAt(2, 10, 10 + hours);
            x.rest(1, 0, 9);
            Check.hoursTo(x, 10);
            Check.due("the LEARNER's first END", x.look(0, 4), 11);
            Check.hoursTo(x, 10 + hours);
            Check.due("the LEARNER was along", x.craft(1, 4), 0);
            Check.due("the LEARNER's second END, " + hours, x.look(0, 4), 10 + hours + 1 + (hours < 24 ? 9 : 0));
            Check.due("the LEADER's first END", x.look(2, 4), 10 + hours + 1);
        }
    }

    private static void restTwiceBehindTheLast() {
        Check.sentence("Terms 2", "that PILOT's last END before this one");
        PilotStation x = endsAt(1, 10, 20, 44);
        x.rest(1, 0, 9);
        Check.hoursTo(x, 44);
        Check.due("24 behind the last one", x.look(0, 4), 45);
        PilotStation y = endsAt(1, 10, 34, 57);
        y.rest(1, 0, 9);
        Check.hoursTo(y, 34);
        Check.due("24 behind the first one", y.look(0, 4), 35);
        Check.hoursTo(y, 57);
        Check.due("47 behind the first, 23 behind the last one", y.look(0, 4), 57 + 10);
    }

    private static void restTwiceAndTurningBack() {
        Check.sentence("Terms 2", "that PILOT's last END before this one");
        PilotStation x = Check.seniors(1);
        x.rest(1, 0, 9);
        x.ship(false, 50, 1, 10, -1, false);
        x.ship(false, 40, 1, 12, -1, false);
        Check.hoursTo(x, 10);
        x.back(0);
        Check.hoursTo(x, 13);
        Check.due("a SHIP that turned back had no END", x.look(0, 4), 14);
    }

    private static void restAsItIsAtTheEnd() {
        Check.sentence("Terms 2", "as they are at the END");
        PilotStation x = Check.seniors(1);
        x.rest(20, 20, 20);
        x.ship(false, 200, 1, 3, -1, false);
        Check.hoursTo(x, 5);
        x.rest(3, 5, 48);
        x.hour();
        Check.due("as told last while it was led", x.look(0, 4), 6 + 8);
        x.rest(0, 0, 0);
        x.hour();
        Check.due("a later REST is not theirs", x.look(0, 4), 14);
        Check.due("not RESTED", x.look(0, 7), -1);
    }

    private static void restedWhenThatHourHasCome() {
        Check.sentence("Terms 2", "RESTED is, for whom that HOUR has come.");
        for (int base = 0; base <= 48; base += 6) {
            PilotStation x = Check.seniors(1);
            x.rest(base, 0, 0);
            x.ship(false, 50, 1, 1, -1, false);
            Check.hoursTo(x, 2);
            for (int hour = 2; hour <= 52; hour++) {
                Check.due("BASE " + base + ", in the LIST at " + hour, x.look(0, 7), hour < 2 + base ? -1 : 0);
                x.hour();
            }
        }
    }

    private static void toTheListFromTheRoad() {
        Check.sentence("Terms 2", "a PILOT comes to its end at the first HOUR at which they are at the STATION"
                + " or the POST and RESTED and not in it");
        for (int road = 0; road <= 5; road++) {
            PilotStation x = broughtIn(road);
            for (int hour = 11; hour <= 17; hour++) {
                Check.due("RESTED, the ROAD " + road + ", at " + hour, x.count(10), hour < 11 + road ? 0 : 3);
                x.hour();
            }
        }
        PilotStation y = endsAt(1, 10);
        y.road(2);
        y.rest(4, 0, 0);
        Check.hoursTo(y, 12);
        Check.due("at the STATION", y.look(0, 3), 0);
        Check.due("at the STATION but not RESTED", y.look(0, 7), -1);
        y.hour();
        Check.due("the HOUR ahead", y.look(0, 7), -1);
        y.hour();
        Check.due("RESTED", y.look(0, 7), 0);
    }

    private static void toTheListAtThePost() {
        Check.sentence("Terms 2", "they are at the STATION or the POST and RESTED and not in it");
        PilotStation x = Check.seniors(1);
        x.rest(2, 0, 0);
        x.ship(false, 50, 1, 1, -1, false);
        Check.hoursTo(x, 3);
        Check.due("not RESTED", x.look(0, 7), -1);
        x.hour();
        Check.due("at the POST", x.look(0, 3), 1);
        Check.due("in the LIST", x.look(0, 7), 0);
        Check.hours(x, 5);
        Check.dueList("but once", x, 0);
    }

    private static void toTheListByNumbers() {
        Check.sentence("Terms 2", "of one HOUR by their numbers");
        PilotStation x = Check.seniors(4);
        x.rest(1, 0, 0);
        x.boat(Check.ALL_DAY, 9);
        x.ship(false, 60, 1, 2, 3, false);
        x.ship(true, 50, 1, 2, 2, false);
        x.ship(false, 120, 1, 1, 1, false);
        Check.hoursTo(x, 3);
        Check.dueList("all END at 3", x, 0);
        x.hour();
        Check.due("from the ROAD", x.look(2, 3), 0);
        Check.dueList("all come at 4", x, 0, 1, 2, 3);
    }

    private static void toTheListBehindTheOthers() {
        Check.sentence("Terms 2", "a PILOT comes to its end at the first HOUR");
        PilotStation x = Check.seniors(3);
        x.rest(0, 0, 0);
        x.ship(false, 50, 1, 1, 2, false);
        x.ship(false, 50, 1, 2, 0, false);
        Check.hoursTo(x, 2);
        Check.dueList("2 came, 0 went", x, 1, 2);
        x.hour();
        Check.dueList("0 came behind them", x, 1, 2, 0);
    }

    private static void toTheListAtOnce() {
        Check.sentence("Terms 2", "new ones at once");
        PilotStation x = Check.seniors(1);
        x.rest(0, 0, 0);
        x.ship(false, 50, 1, 1, -1, false);
        x.hour();
        Check.dueList("nobody", x);
        x.pilot(0, 1, 1);
        Check.dueList("at once", x, 1);
        x.pilot(2, 1, 1);
        Check.dueList("at its end", x, 1, 2);
        x.hour();
        Check.dueList("ahead of who comes with the HOUR", x, 1, 2, 0);
    }

    private static void toTheListUnwillingAndOff() {
        Check.sentence("Terms 2", "they are at the STATION or the POST and RESTED and not in it");
        PilotStation x = Check.seniors(2);
        x.rest(0, 0, 0);
        x.ship(false, 50, 1, 1, -2, false);
        x.hour();
        x.will(0, false);
        x.off(1, 0, true);
        x.hour();
        Check.dueList("no more is asked of them", x, 0, 1);
    }

    private static void fromTheListWhenTaken() {
        Check.sentence("Terms 2", "goes from it when a SHIP takes them");
        PilotStation x = Check.seniors(4);
        Check.pilots(x, 2, 1);
        x.ship(false, 50, 1, 1, 1, false);
        x.ship(false, 40, 1, 2, -2, true);
        x.hour();
        Check.dueList("the LEADER went", x, 0, 2, 3, 4);
        x.hour();
        Check.dueList("LEADER, SECOND ONE and LEARNER went", x, 3);
    }
}
