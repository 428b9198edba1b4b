/** Promise 11: who is sent, who is asked, what keeps a ship waiting, and what an END brings. */
public final class HourTest {
    private static final int LATE_HOUR = 9000;

    public static void main(String[] args) {
        longestFirst();
        notAheadOfItsHour();
        tideKeepsWaiting();
        firstAgainstHolds();
        unwillingGoToTheEnd();
        twoAreSought();
        toldOneAlone();
        seatsOut();
        atThePost();
        learnersAlong();
        seatsBack();
        seatsBackOfOneHour();
        restTwice();
        nightOfALongShip();
        listOfOneHour();
        theLastHour();
        Check.end("HourTest");
    }

    private static int[] row(int ship, int pilot, int against) {
        return new int[] {ship, pilot, against};
    }

    private static void longestFirst() {
        PilotStation x = Check.openFor(1);
        x.ship(false, 100, 1, 0, -1, false);
        x.ship(false, 300, 1, 0, -1, false);
        x.ship(false, 300, 1, 0, -1, false);
        x.pilot(0, 400, 200);
        Check.due("one goes", x.hour(), 1);
        Check.due("the longest, first made", x.craft(1, 0), 1);
        Check.dueAsked("nobody is left for the others", x, row(1, 0, 0));
        Check.due("ship 0 waits for pilots", x.craft(0, 6), 1);
        Check.due("ship 2 waits for pilots", x.craft(2, 6), 1);
        Check.due("all", x.count(12), 2);
        Check.due("led", x.count(5), 1);
        x.pilot(1, 0, 0);
        x.pilot(1, 0, 0);
        Check.due("two go", x.hour(), 2);
        Check.due("the longer has the first", x.craft(2, 2), 1);
        Check.due("the shorter has the next", x.craft(0, 2), 2);
        Check.due("went", x.craft(0, 1), 2);
    }

    private static void notAheadOfItsHour() {
        PilotStation x = Check.openFor(1);
        x.pilot(1, 0, 0);
        x.ship(false, 399, 1, 3, -1, false);
        Check.due("not at 1", x.hour(), 0);
        Check.due("not at 2", x.hour(), 0);
        Check.due("nobody asked", x.count(14), 0);
        Check.due("not kept", x.count(11) + x.count(12) + x.count(13), 0);
        Check.due("at 3", x.hour(), 1);
        Check.hours(x, 3);
        Check.due("led for 4 hours", x.craft(0, 0), 1);
        x.hour();
        Check.due("to its END at 7", x.craft(0, 0), 2);
        Check.due("turns", x.look(0, 5), 1);
        Check.due("hours led", x.look(0, 6), 4);
        Check.due("leader told behind the END", x.craft(0, 2), 0);
    }

    private static void tideKeepsWaiting() {
        PilotStation x = new PilotStation();
        x.tide(0, 0);
        x.tide(0, 9);
        x.tide(0, 10);
        x.pilot(2, 400, 200);
        x.ship(false, 50, 10, 0, -1, false);
        x.hour();
        Check.due("too deep", x.craft(0, 5), 1);
        Check.due("nobody asked", x.count(14), 0);
        x.hour();
        Check.due("a window", x.craft(0, 5), 1);
        Check.due("no pilot", x.craft(0, 6), 1);
        x.hour();
        Check.due("the row is over", x.craft(0, 5), 2);
        Check.hours(x, 21);
        Check.due("no row at day 1", x.craft(0, 5), 23);
        Check.due("all", x.count(11), 23);
    }

    private static void firstAgainstHolds() {
        PilotStation x = Check.openFor(1);
        x.pilot(0, 49, 200);
        x.pilot(0, 50, 10);
        x.pilot(0, 400, 200);
        x.pilot(0, 50, 11);
        for (int p = 0; p < 4; p++) {
            x.will(p, false);
        }
        for (int p = 0; p < 3; p++) {
            x.off(p, 0, true);
        }
        x.ship(true, 50, 11, 0, -1, false);
        Check.due("nobody", x.hour(), 0);
        Check.dueAsked("the first that holds", x, row(0, 0, 1), row(0, 1, 1), row(0, 2, 2), row(0, 3, 3));
        Check.dueList("no places lost", x, 0, 1, 2, 3);
        Check.due("boats", x.craft(0, 7), 1);
        x.boat(16777215, 1);
        x.hour();
        Check.dueAsked("with a seat", x, row(0, 0, 1), row(0, 1, 1), row(0, 2, 2), row(0, 3, 4));
        Check.due("boats", x.craft(0, 7), 1);
        Check.due("pilots", x.craft(0, 6), 1);
        x.will(3, true);
        Check.due("goes", x.hour(), 1);
        Check.due("leader", x.craft(0, 2), 3);
    }

    private static void unwillingGoToTheEnd() {
        PilotStation x = Check.openFor(1);
        x.pilot(1, 0, 0);
        x.pilot(2, 0, 0);
        x.pilot(1, 0, 0);
        x.will(0, false);
        x.will(2, false);
        x.ship(false, 20, 1, 0, -1, false);
        x.ship(false, 10, 1, 0, -1, false);
        Check.due("nobody", x.hour(), 0);
        Check.dueAsked("each once for each ship", x, row(0, 0, 4), row(0, 1, 1), row(0, 2, 4),
                row(1, 1, 1), row(1, 0, 4), row(1, 2, 4));
        Check.dueList("at the end", x, 1, 0, 2);
        x.will(0, true);
        Check.due("one", x.hour(), 1);
        Check.dueAsked("from the front", x, row(0, 1, 1), row(0, 0, 0), row(1, 1, 1), row(1, 2, 4));
        Check.dueList("left", x, 1, 2);
        Check.due("pilots kept ship 1", x.craft(1, 6), 2);
        Check.due("pilots kept ship 0", x.craft(0, 6), 1);
    }

    private static void twoAreSought() {
        PilotStation x = Check.openFor(1);
        x.pilot(1, 0, 0);
        x.pilot(3, 0, 0);
        x.will(0, false);
        x.ship(false, 250, 7, 0, -2, false);
        Check.due("one is not enough", x.hour(), 0);
        Check.dueAsked("the leader aside, the unwilling again", x, row(0, 0, 4), row(0, 1, 0), row(0, 0, 4));
        Check.dueList("who was found stays", x, 1, 0);
        Check.due("pilots", x.craft(0, 6), 1);
        x.pilot(0, 400, 200);
        Check.due("goes", x.hour(), 1);
        Check.dueAsked("now", x, row(0, 1, 0), row(0, 0, 4), row(0, 2, 0));
        Check.due("leader", x.craft(0, 2), 1);
        Check.due("second one", x.craft(0, 3), 2);
        Check.dueList("left", x, 0);
        Check.hours(x, 3);
        for (int p = 1; p <= 2; p++) {
            Check.due("turns", x.look(p, 5), 1);
            Check.due("hours led", x.look(p, 6), 3);
            Check.due("rested", x.look(p, 4), 5 + 12);
        }
        Check.due("all turns", x.count(8), 2);
        Check.due("all hours led", x.count(9), 6);
        Check.due("second one told behind the END", x.craft(0, 3), 2);
    }

    private static void toldOneAlone() {
        PilotStation x = Check.openFor(1);
        x.pilot(1, 0, 0);
        x.pilot(4, 50, 10);
        x.pilot(0, 400, 200);
        x.ship(false, 50, 10, 0, 1, false);
        x.ship(false, 51, 10, 0, 1, false);
        Check.due("goes", x.hour(), 1);
        Check.dueAsked("none but them", x, row(1, 1, 1), row(0, 1, 0));
        Check.due("leader", x.craft(0, 2), 1);
        x.hour();
        Check.dueAsked("not in the list", x, row(1, 1, 5));
        Check.due("pilots", x.craft(1, 6), 2);
        x.will(0, false);
        x.ship(false, 60, 10, 0, 0, false);
        x.hour();
        Check.dueAsked("not willing", x, row(2, 0, 4), row(1, 1, 5));
        Check.dueList("to the end", x, 2, 0);
        x.ship(true, 70, 10, 0, 2, false);
        x.hour();
        Check.due("no seat", x.asked(0, 2), 3);
        Check.due("boats", x.craft(3, 7), 1);
        x.off(2, 0, true);
        x.hour();
        Check.due("off", x.asked(0, 2), 2);
        Check.due("pilots", x.craft(3, 6), 1);
    }

    private static void seatsOut() {
        PilotStation x = Check.openFor(1);
        x.pilot(1, 0, 0);
        x.pilot(1, 0, 0);
        x.pilot(1, 0, 0);
        x.boat(1, 1);
        x.boat(2, 2);
        x.ship(true, 200, 1, 0, -2, false);
        Check.due("one seat for two", x.hour(), 0);
        Check.dueAsked("the leader has it", x, row(0, 0, 0), row(0, 1, 3), row(0, 2, 3));
        Check.due("boats", x.craft(0, 7), 1);
        Check.dueList("nobody goes", x, 0, 1, 2);
        x.ship(true, 100, 1, 0, -1, false);
        Check.due("two seats", x.hour(), 1);
        Check.dueAsked("none is left", x, row(0, 0, 0), row(0, 1, 0), row(1, 2, 3));
        Check.due("boats", x.craft(1, 7), 1);
        Check.due("boats, all", x.count(13), 2);
        x.ship(false, 90, 1, 0, -1, false);
        Check.due("OUT needs no seat", x.hour(), 1);
        Check.due("leader", x.craft(2, 2), 2);
    }

    /** A pilot at the POST: needs no seat for a ship IN, and cannot be there for a ship OUT. */
    private static void atThePost() {
        PilotStation x = Check.openFor(1);
        x.pilot(1, 0, 0);
        x.rest(0, 0, 0);
        x.ship(false, 99, 1, 0, -1, false);
        Check.hours(x, 2);
        Check.due("at the post", x.look(0, 3), 1);
        Check.dueList("rested at once", x, 0);
        x.ship(false, 99, 1, 0, -1, false);
        x.hour();
        Check.dueAsked("not at the station", x, row(1, 0, 3));
        Check.due("that is no boat's fault", x.craft(1, 6), 1);
        Check.due("boats", x.craft(1, 7), 0);
        x.pilot(1, 0, 0);
        x.ship(true, 200, 1, 0, -2, false);
        x.boat(1 << 3, 1);
        Check.due("the seat is left for the second", x.hour(), 1);
        Check.due("leader", x.craft(2, 2), 0);
        Check.due("second one", x.craft(2, 3), 1);
    }

    private static void learnersAlong() {
        PilotStation x = Check.openFor(1);
        for (int p = 0; p < 4; p++) {
            x.pilot(2, 400, 200);
        }
        x.pilot(1, 0, 0);
        x.off(0, 0, true);
        x.will(1, false);
        x.boat(1, 1);
        x.boat(2, 2);
        x.ship(true, 150, 1, 0, 4, true);
        Check.due("goes", x.hour(), 1);
        Check.due("without one", x.craft(0, 4), -1);
        Check.dueList("learners stay", x, 0, 1, 2, 3);
        x.pilot(1, 0, 0);
        x.ship(true, 110, 1, 0, 5, true);
        Check.due("goes", x.hour(), 1);
        Check.dueAsked("learners are not asked", x, row(1, 5, 0));
        Check.due("with the first who can", x.craft(1, 4), 2);
        Check.due("aboard", x.look(2, 8), 1);
        Check.dueList("others keep their places", x, 0, 1, 3);
        x.pilot(1, 0, 0);
        x.ship(false, 250, 1, 0, 6, false);
        x.hour();
        Check.due("none along", x.craft(2, 4), -1);
        x.hour();
        Check.due("END", x.craft(1, 0), 2);
        Check.due("no turn", x.look(2, 5), 0);
        Check.due("no hours led", x.look(2, 6), 0);
        Check.due("the learner rests", x.look(2, 4), 4 + 12);
        Check.due("the learner is on the road", x.look(2, 3), 3);
        Check.due("learner told behind the END", x.craft(1, 4), 2);
        Check.due("all turns", x.count(8), 2);
    }

    private static void seatsBack() {
        PilotStation x = Check.openFor(1);
        for (int p = 0; p < 3; p++) {
            x.pilot(1, 0, 0);
        }
        x.rest(0, 0, 0);
        x.boat(1 << 4 | 1 << 5, 1);
        x.ship(false, 50, 1, 1, 2, false);
        x.ship(false, 50, 1, 2, 0, false);
        x.ship(false, 50, 1, 2, 1, false);
        Check.hours(x, 3);
        Check.dueList("by their coming", x, 2, 0, 1);
        Check.hours(x, 2);
        Check.due("still at the post", x.look(2, 3), 1);
        x.hour();
        Check.due("the longest goes", x.look(2, 3), 0);
        Check.due("one seat", x.look(0, 3), 1);
        Check.dueList("places kept", x, 2, 0, 1);
        x.hour();
        Check.due("of one hour by numbers", x.look(0, 3), 0);
        Check.due("not both", x.look(1, 3), 1);
        x.hour();
        Check.due("no boat", x.look(1, 3), 1);
    }

    /** Those who are taken at the POST leave the seat to others, and those who come now have none yet. */
    private static void seatsBackOfOneHour() {
        PilotStation x = Check.openFor(1);
        x.pilot(1, 0, 0);
        x.pilot(1, 0, 0);
        x.rest(0, 0, 0);
        x.boat(1 << 1, 20);
        x.ship(false, 50, 1, 1, 1, false);
        x.ship(false, 50, 1, 2, 0, false);
        x.ship(true, 50, 1, 3, -1, false);
        Check.hours(x, 3);
        Check.due("taken at the post", x.craft(2, 2), 1);
        Check.due("aboard", x.look(1, 3), 2);
        Check.due("came too late for the boat", x.look(0, 3), 1);
    }

    private static void restTwice() {
        for (int between = 22; between <= 25; between++) {
            PilotStation x = Check.openFor(3);
            x.pilot(0, 400, 200);
            x.rest(1, 0, 5);
            x.road(0);
            x.boat(16777215, 1);
            x.ship(true, 50, 1, 10, -1, false);
            x.ship(true, 50, 1, 10 + between, -1, false);
            Check.hours(x, 11);
            Check.due("the first END", x.look(0, 4), 12);
            Check.hours(x, between);
            Check.due(between + " hours between", x.look(0, 4), 11 + between + (between < 24 ? 6 : 1));
        }
        PilotStation x = Check.openFor(1);
        x.pilot(2, 0, 0);
        x.pilot(1, 0, 0);
        x.rest(0, 0, 5);
        x.road(0);
        x.boat(16777215, 2);
        x.ship(true, 50, 1, 8, 1, true);
        x.ship(true, 50, 1, 10, 1, true);
        Check.hours(x, 11);
        Check.due("also as a learner", x.look(0, 4), 16);
    }

    private static void nightOfALongShip() {
        PilotStation x = Check.openFor(2);
        x.pilot(0, 400, 200);
        x.pilot(0, 400, 200);
        x.rest(1, 10, 0);
        x.ship(false, 200, 1, 19, -1, false);
        x.ship(false, 100, 1, 21, -1, false);
        Check.hours(x, 23);
        Check.due("19, 20, 21 are day", x.look(0, 4), 23);
        Check.due("21, 22 are not", x.look(1, 4), 34);
    }

    private static void listOfOneHour() {
        PilotStation x = Check.openFor(1);
        for (int p = 0; p < 4; p++) {
            x.pilot(1, 0, 0);
        }
        x.rest(2, 0, 0);
        x.boat(16777215, 9);
        x.ship(true, 120, 1, 1, 3, false);
        x.ship(false, 110, 1, 1, 1, false);
        x.ship(false, 50, 1, 3, 0, false);
        Check.hours(x, 4);
        Check.dueList("while they rest", x, 2);
        x.hour();
        Check.dueList("of one hour by numbers", x, 2, 1, 3);
        Check.due("at the station by now", x.look(1, 3), 0);
        x.hour();
        Check.dueList("a later hour behind", x, 2, 1, 3, 0);
    }

    private static void theLastHour() {
        PilotStation x = new PilotStation();
        for (int clock = 0; clock < 24; clock++) {
            x.tide(399, 200);
        }
        x.pilot(1, 0, 0);
        x.ship(false, 50, 1, LATE_HOUR, -1, false);
        Check.hours(x, 9598);
        Check.due("the last", x.hour(), 0);
        Check.due("now", x.count(0), 9599);
        Check.due("went with day 399", x.craft(0, 1), 9576);
        Check.due("kept by the tide", x.craft(0, 5), 576);
        Check.due("no more", x.hour(), -1);
        Check.due("now", x.count(0), 9599);
    }
}
