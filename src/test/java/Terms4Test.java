/** The boundary cases of the document's "Terms" 4: turning back, changing LEADERS. */
public final class Terms4Test {
    public static void main(String[] args) {
        wentAtNow();
        notLed();
        outBeginsAtTheStation();
        inBeginsAtThePost();
        comeAtNow();
        comeAtNowByNumbers();
        comeAtNowAheadOfOthers();
        restedAsBefore();
        placesAsThatHourBegan();
        placesTheLesserFirst();
        placesTheLesserFirstInALongerList();
        placesTheLesserFirstInAShorterList();
        placeAtTheVeryEnd();
        listThatIsShorter();
        placeTheLastOfSixty();
        placesBehindNewOnes();
        waitsStayTold();
        seatIsNotGivenBack();
        learnerTurnsBackToo();
        swapOfTwo();
        swapNotAtNow();
        swapOutAndIn();
        swapWithASecondOne();
        swapWithoutALeader();
        swapOfOneShip();
        swapThatTheyMayNot();
        swapKeepsTheLearner();
        swapAndPlaces();
        swapAndEnd();
        Check.end("Terms4Test");
    }

    private static void wentAtNow() {
        Check.sentence("Terms 4", "A SHIP that went at NOW may turn back");
        PilotStation x = Check.seniors(2);
        x.ship(false, 400, 1, 2, -1, false);
        x.ship(false, 50, 1, 2, -1, false);
        Check.refused(x, "back() of one that waits", () -> x.back(0));
        Check.hoursTo(x, 2);
        Check.due("at NOW", x.back(1), true);
        x.hour();
        Check.due("still led", x.craft(0, 0), 1);
        Check.refused(x, "back() one HOUR later", () -> x.back(0));
        Check.refused(x, "back() of one that turned back before", () -> x.back(1));
        Check.hoursTo(x, 7);
        Check.due("done", x.craft(0, 0), 2);
        Check.refused(x, "back() of one that is done", () -> x.back(0));
    }

    private static void notLed() {
        Check.sentence("Terms 4", "it is not led");
        PilotStation x = Check.seniors(1);
        x.ship(false, 50, 1, 0, -1, false);
        x.hour();
        x.back(0);
        Check.due("it turned back", x.craft(0, 0), 3);
        Check.due("none is led", x.count(5), 0);
        Check.hours(x, 3);
        Check.due("it has no END", x.craft(0, 0), 3);
        Check.due("no TURN", x.look(0, 5), 0);
        Check.due("no HOURS LED", x.look(0, 6), 0);
        Check.refused(x, "back() again", () -> x.back(0));
    }

    private static void outBeginsAtTheStation() {
        Check.sentence("Terms 4", "those ABOARD are where a SHIP OUT, IN begins (STATION, POST");
        PilotStation x = Check.seniors(2);
        x.ship(false, 50, 1, 0, -2, false);
        x.hour();
        x.back(0);
        for (int p = 0; p < 2; p++) {
            Check.due("at the STATION, pilot " + p, x.look(p, 3), 0);
            Check.due("ABOARD of none, pilot " + p, x.look(p, 8), -1);
        }
    }

    private static void inBeginsAtThePost() {
        Check.sentence("Terms 4", "those ABOARD are where a SHIP OUT, IN begins (STATION, POST");
        PilotStation x = Check.seniors(2);
        x.rest(0, 0, 0);
        x.ship(false, 50, 1, 1, 0, false);
        x.ship(true, 50, 1, 3, -2, false);
        x.boat(1 << 2, 1);
        Check.hoursTo(x, 3);
        Check.dueCrew("1 from the STATION, 0 from the POST", x, 1, 1, 0, -1);
        x.back(1);
        for (int p = 0; p < 2; p++) {
            Check.due("at the POST, pilot " + p, x.look(p, 3), 1);
            Check.due("ABOARD of none, pilot " + p, x.look(p, 8), -1);
        }
        Check.dueList("as they were", x, 1, 0);
    }

    private static void comeAtNow() {
        Check.sentence("Terms 4", "there they count as come at NOW");
        PilotStation x = Check.seniors(2);
        x.rest(0, 0, 0);
        x.ship(false, 50, 1, 1, 0, false);
        x.ship(false, 50, 1, 2, 1, false);
        x.ship(true, 50, 1, 4, 0, false);
        Check.hoursTo(x, 4);
        Check.due("0 is taken at the POST", x.look(0, 8), 2);
        x.back(2);
        x.boat(1 << 4, 1);
        Check.hours(x, 2);
        Check.due("1 is there since 3", x.look(1, 3), 0);
        Check.due("0 was there since 2, but counts as come at 4", x.look(0, 3), 1);
    }

    private static void comeAtNowByNumbers() {
        Check.sentence("Terms 4", "there they count as come at NOW");
        PilotStation x = Check.seniors(2);
        x.ship(true, 50, 1, 3, 1, false);
        x.ship(false, 150, 1, 1, 0, false);
        x.boat(1 << 2 | 1 << 3, 1);
        Check.hoursTo(x, 3);
        x.back(0);
        Check.due("0 has its END at 3", x.look(0, 3), 1);
        Check.due("1 came at 3 too", x.look(1, 3), 1);
        x.hour();
        Check.due("the boat of 2 took 0, by numbers", x.look(0, 3), 0);
        Check.due("1 has the next", x.look(1, 3), 1);
        x.hour();
        Check.due("1 is at the STATION", x.look(1, 3), 0);
        PilotStation y = Check.seniors(2);
        y.ship(true, 50, 1, 3, 0, false);
        y.ship(false, 150, 1, 1, 1, false);
        y.boat(1 << 2, 1);
        Check.hoursTo(y, 3);
        y.back(0);
        y.hour();
        Check.due("0 came at 3 too, and is the lesser number", y.look(0, 3), 0);
        Check.due("1 stays", y.look(1, 3), 1);
    }

    private static void comeAtNowAheadOfOthers() {
        Check.sentence("Terms 4", "there they count as come at NOW");
        PilotStation x = Check.seniors(3);
        x.ship(true, 50, 1, 3, 1, false);
        x.ship(false, 150, 1, 2, 0, false);
        x.ship(false, 50, 1, 1, 2, false);
        x.boat(1 << 2, 1);
        Check.hoursTo(x, 3);
        x.back(0);
        x.hour();
        Check.due("the boat of 2 took 2, who came at 2", x.look(2, 3), 0);
        x.boat(1 << 4, 1);
        Check.hours(x, 2);
        Check.due("1 came at 3", x.look(1, 3), 0);
        Check.due("0 has its END at 4", x.look(0, 3), 1);
    }

    private static void restedAsBefore() {
        Check.sentence("Terms 4", "RESTED as before");
        PilotStation x = Check.seniors(1);
        x.rest(5, 0, 0);
        x.boat(Check.ALL_DAY, 1);
        x.ship(false, 50, 1, 7, -1, false);
        x.ship(false, 50, 1, 14, -1, false);
        Check.hoursTo(x, 14);
        Check.due("led", x.craft(1, 0), 1);
        Check.due("RESTED from", x.look(0, 4), 13);
        x.back(1);
        Check.due("RESTED from", x.look(0, 4), 13);
        Check.dueList("in the LIST", x, 0);
    }

    private static void placesAsThatHourBegan() {
        Check.sentence("Terms 4", "in the LIST at the place (from 0) at which they were as that hour() began");
        PilotStation x = Check.seniors(4);
        x.will(0, false);
        x.will(1, false);
        x.ship(false, 50, 1, 0, -1, false);
        x.hour();
        Check.dueCrew("2", x, 0, 2, -1, -1);
        Check.dueList("0 and 1 at the end", x, 3, 0, 1);
        x.back(0);
        Check.dueList("at place 2, not at place 0 where the seeking came to it", x, 3, 0, 2, 1);
    }

    private static void placesTheLesserFirst() {
        Check.sentence("Terms 4", "by these places, the lesser first");
        PilotStation x = Check.openFor(1);
        Check.pilots(x, 2, 1);
        x.pilot(3, 0, 0);
        Check.pilots(x, 1, 1);
        x.off(1, 0, true);
        x.ship(false, 50, 1, 1, 2, false);
        x.hour();
        x.back(0);
        Check.dueList("one of three", x, 0, 1, 2);
        x.off(1, 0, false);
        x.will(1, false);
        x.ship(false, 40, 1, 0, -2, true);
        Check.pilots(x, 1, 1);
        x.hour();
        Check.dueCrew("2, 3 and 0", x, 1, 2, 3, 0);
        Check.dueList("left", x, 1);
        x.back(1);
        Check.dueList("0 to 0, 2 to 2, 3 to 3", x, 0, 1, 2, 3);
        PilotStation y = Check.openFor(1);
        Check.pilots(y, 2, 1);
        Check.pilots(y, 1, 2);
        y.ship(false, 40, 1, 0, -2, true);
        y.hour();
        Check.dueList("all went", y);
        y.back(0);
        Check.dueList("the LEARNER, with the least place, first", y, 0, 1, 2);
    }

    private static void placesTheLesserFirstInALongerList() {
        Check.sentence("Terms 4", "by these places, the lesser first");
        PilotStation x = Check.openFor(1);
        Check.pilots(x, 2, 1);
        Check.pilots(x, 0, 1);
        Check.pilots(x, 1, 1);
        Check.pilots(x, 0, 2);
        x.ship(false, 40, 1, 0, 2, true);
        x.hour();
        Check.dueCrew("2 and 0", x, 0, 2, -1, 0);
        Check.dueList("left", x, 1, 3, 4);
        x.back(0);
        Check.dueList("the LEARNER to 0, then the LEADER to 2", x, 0, 1, 2, 3, 4);
    }

    private static void placesTheLesserFirstInAShorterList() {
        Check.sentence("Terms 4", "by these places, the lesser first, or at its end if it is shorter");
        PilotStation x = Check.seniors(1);
        Check.pilots(x, 2, 1);
        Check.pilots(x, 1, 1);
        x.ship(false, 50, 1, 0, 0, false);
        x.ship(false, 40, 1, 0, 2, true);
        Check.due("both go", x.hour(), 2);
        Check.dueCrew("2 and 1", x, 1, 2, -1, 1);
        x.back(1);
        Check.dueList("the LEARNER to the end, then the LEADER", x, 1, 2);
        x.back(0);
        Check.dueList("all", x, 0, 1, 2);
    }

    private static void placeAtTheVeryEnd() {
        Check.sentence("Terms 4", "or at its end if it is shorter");
        PilotStation x = Check.seniors(3);
        x.ship(false, 50, 1, 0, 2, false);
        x.hour();
        x.back(0);
        Check.dueList("place 2 of a LIST of 2", x, 0, 1, 2);
        PilotStation y = Check.seniors(1);
        y.ship(false, 50, 1, 0, -1, false);
        y.hour();
        y.back(0);
        Check.dueList("place 0 of an empty LIST", y, 0);
    }

    private static void listThatIsShorter() {
        Check.sentence("Terms 4", "or at its end if it is shorter");
        PilotStation x = Check.seniors(4);
        for (int s = 0; s < 3; s++) {
            x.ship(false, 50 - s, 1, 0, 1 + s, false);
        }
        x.hour();
        Check.dueList("one is left", x, 0);
        x.back(2);
        Check.dueList("place 3 of a LIST of 1", x, 0, 3);
        x.back(1);
        Check.dueList("place 2 of a LIST of 2", x, 0, 3, 2);
        x.back(0);
        Check.dueList("place 1 of a LIST of 3", x, 0, 1, 3, 2);
    }

    private static void placeTheLastOfSixty() {
        Check.sentence("Terms 4", "in the LIST at the place (from 0) at which they were as that hour() began");
        PilotStation x = Check.seniors(60);
        x.ship(false, 60, 1, 0, 59, false);
        x.ship(false, 50, 1, 0, 0, false);
        Check.due("both go", x.hour(), 2);
        Check.due("the last place to the first", x.back(1) && x.back(0), true);
        for (int p = 0; p < 60; p++) {
            Check.due("the place of " + p, x.look(p, 7), p);
        }
        Check.due("all at the STATION", x.look(59, 3) + x.look(0, 3), 0);
        PilotStation y = Check.openFor(1);
        Check.pilots(y, 0, 57);
        Check.pilots(y, 2, 1);
        Check.pilots(y, 1, 2);
        for (int p = 0; p < 57; p++) {
            y.off(p, 0, true);
        }
        y.ship(false, 60, 1, 0, -2, true);
        y.hour();
        Check.dueCrew("the last three", y, 0, 58, 59, 57);
        Check.due("back()", y.back(0), true);
        for (int p = 0; p < 60; p++) {
            Check.due("the place of " + p, y.look(p, 7), p);
        }
    }

    private static void placesBehindNewOnes() {
        Check.sentence("Terms 4", "in the LIST at the place (from 0) at which they were as that hour() began");
        PilotStation x = Check.seniors(2);
        x.ship(false, 50, 1, 0, 1, false);
        x.hour();
        Check.pilots(x, 1, 2);
        Check.dueList("new ones", x, 0, 2, 3);
        x.back(0);
        Check.dueList("the place counts, not who stood there", x, 0, 1, 2, 3);
    }

    private static void waitsStayTold() {
        Check.sentence("Terms 4", "what it was kept waiting stays told");
        PilotStation x = new PilotStation();
        for (int draught : new int[] {0, 0, 0, 9, 9, 9, 9}) {
            x.tide(0, draught);
        }
        x.ship(true, 50, 9, 1, -1, false);
        Check.hoursTo(x, 3);
        Check.pilots(x, 1, 1);
        x.hour();
        x.boat(Check.ALL_DAY, 1);
        x.hour();
        Check.due("it went", x.craft(0, 1), 5);
        x.back(0);
        Check.dueWaits("1 and 2, 3, 4", x, 0, 2, 1, 1);
        Check.due("the HOUR at which it went", x.craft(0, 1), 5);
        Check.hours(x, 2);
        Check.dueWaits("no more", x, 0, 2, 1, 1);
        Check.due("all by the TIDE", x.count(11), 2);
    }

    private static void seatIsNotGivenBack() {
        Check.sentence("Terms 4", "those ABOARD are where a SHIP OUT, IN begins");
        PilotStation x = Check.seniors(1);
        x.boat(Check.ALL_DAY, 1);
        x.ship(true, 50, 1, 0, -1, false);
        x.hour();
        x.back(0);
        Check.due("SEATS told are those of the BOATS", x.seats(0, true), 1);
        x.ship(true, 50, 1, 0, -1, false);
        x.hour();
        Check.due("the next HOUR has its own", x.craft(1, 0), 1);
    }

    private static void learnerTurnsBackToo() {
        Check.sentence("Terms 4", "those ABOARD are where a SHIP OUT, IN begins");
        PilotStation x = Check.seniors(1);
        Check.pilots(x, 2, 1);
        x.boat(Check.ALL_DAY, 2);
        x.ship(true, 50, 1, 0, -1, true);
        x.hour();
        Check.dueCrew("with a LEARNER", x, 0, 0, -1, 1);
        x.back(0);
        Check.dueCrew("NONE of one that turned back", x, 0, -1, -1, -1);
        Check.due("the LEARNER is at the POST", x.look(1, 3), 1);
        Check.due("ABOARD of none", x.look(1, 8), -1);
        Check.dueList("both", x, 0, 1);
    }

    private static void dueLeaders(String when, PilotStation x, int ofShip0, int ofShip1) {
        Check.due(when + ": leader of ship 0", x.craft(0, 2), ofShip0);
        Check.due(when + ": leader of ship 1", x.craft(1, 2), ofShip1);
    }

    private static void swapOfTwo() {
        Check.sentence("Terms 4", "Two SHIPS that went at NOW, both OUT or both IN, each with a LEADER and no SECOND ONE, can change LEADERS.");
        for (int in = 0; in <= 1; in++) {
            PilotStation x = Check.seniors(2);
            x.boat(Check.ALL_DAY, 2);
            x.ship(in == 1, 60, 1, 0, -1, false);
            x.ship(in == 1, 50, 1, 0, -1, false);
            x.hour();
            dueLeaders("at first", x, 0, 1);
            Check.due("swap(0, 1)", x.swap(0, 1), true);
            dueLeaders("changed", x, 1, 0);
            Check.due("0 is ABOARD of", x.look(0, 8), 1);
            Check.due("1 is ABOARD of", x.look(1, 8), 0);
            Check.due("still ABOARD", x.look(0, 3), 2);
            Check.dueList("nobody comes", x);
            Check.due("swap(1, 0)", x.swap(1, 0), true);
            dueLeaders("changed again", x, 0, 1);
        }
    }

    private static void swapNotAtNow() {
        Check.sentence("Terms 4", "Two SHIPS that went at NOW");
        PilotStation x = Check.seniors(3);
        x.ship(false, 300, 1, 1, -1, false);
        x.ship(false, 200, 1, 1, -1, false);
        x.ship(false, 100, 1, 2, -1, false);
        Check.refused(x, "both wait", () -> x.swap(0, 1));
        x.hour();
        Check.refused(x, "the other waits", () -> x.swap(0, 2));
        Check.refused(x, "the first waits", () -> x.swap(2, 0));
        x.hour();
        Check.refused(x, "both went an HOUR ago", () -> x.swap(0, 1));
        Check.refused(x, "the first went an HOUR ago", () -> x.swap(0, 2));
        Check.refused(x, "the other went an HOUR ago", () -> x.swap(2, 0));
        Check.hoursTo(x, 5);
        Check.refused(x, "both are done", () -> x.swap(0, 1));
    }

    private static void swapOutAndIn() {
        Check.sentence("Terms 4", "both OUT or both IN");
        PilotStation x = Check.seniors(2);
        x.boat(Check.ALL_DAY, 2);
        x.ship(false, 60, 1, 0, -1, false);
        x.ship(true, 50, 1, 0, -1, false);
        Check.due("both go", x.hour(), 2);
        Check.refused(x, "OUT and IN", () -> x.swap(0, 1));
        Check.refused(x, "IN and OUT", () -> x.swap(1, 0));
    }

    private static void swapWithASecondOne() {
        Check.sentence("Terms 4", "each with a LEADER and no SECOND ONE");
        PilotStation x = Check.seniors(5);
        x.ship(false, 60, 1, 0, -2, false);
        x.ship(false, 50, 1, 0, -1, false);
        x.ship(false, 40, 1, 0, -2, false);
        Check.due("all go", x.hour(), 3);
        Check.refused(x, "the first has one", () -> x.swap(0, 1));
        Check.refused(x, "the other has one", () -> x.swap(1, 0));
        Check.refused(x, "both have one", () -> x.swap(0, 2));
    }

    private static void swapWithoutALeader() {
        Check.sentence("Terms 4", "each with a LEADER and no SECOND ONE");
        PilotStation x = Check.seniors(2);
        x.ship(false, 60, 1, 0, -1, false);
        x.ship(false, 50, 1, 0, -1, false);
        x.hour();
        x.back(0);
        Check.refused(x, "the first turned back", () -> x.swap(0, 1));
        Check.refused(x, "the other turned back", () -> x.swap(1, 0));
        x.back(1);
        Check.refused(x, "both turned back", () -> x.swap(0, 1));
    }

    private static void swapOfOneShip() {
        Check.sentence("Promise 13", "false, if it is one SHIP");
        PilotStation x = Check.seniors(1);
        x.ship(false, 60, 1, 0, -1, false);
        x.hour();
        Check.refused(x, "swap(0, 0)", () -> x.swap(0, 0));
    }

    private static void swapThatTheyMayNot() {
        Check.sentence("Promise 13", "or one of both LEADERS MAY not lead the other SHIP");
        PilotStation x = Check.openFor(1);
        x.pilot(0, 60, 20);
        x.pilot(0, 59, 20);
        x.pilot(0, 60, 19);
        x.pilot(4, 400, 200);
        x.ship(false, 60, 19, 0, 0, false);
        x.ship(false, 59, 20, 0, 1, false);
        x.ship(false, 59, 19, 0, 2, false);
        x.ship(false, 10, 1, 0, 3, false);
        Check.due("all go", x.hour(), 4);
        Check.refused(x, "the other's is shorter by 1", () -> x.swap(0, 1));
        Check.refused(x, "the first's is shorter by 1", () -> x.swap(1, 0));
        Check.refused(x, "the other's is flatter by 1", () -> x.swap(1, 2));
        Check.refused(x, "the first's is flatter by 1", () -> x.swap(2, 1));
        Check.refused(x, "a RETIRED is not wanted by the other", () -> x.swap(0, 3));
        Check.refused(x, "a RETIRED is not wanted by the first", () -> x.swap(3, 0));
        Check.due("each MAY, though the SHIPS WANT told ones", x.swap(0, 2), true);
        Check.due("leader of ship 0", x.craft(0, 2), 2);
        Check.due("leader of ship 2", x.craft(2, 2), 0);
    }

    private static void swapKeepsTheLearner() {
        Check.sentence("Terms 4", "can change LEADERS");
        PilotStation x = Check.seniors(2);
        Check.pilots(x, 2, 1);
        x.ship(false, 60, 1, 0, -1, true);
        x.ship(false, 50, 1, 0, -1, false);
        x.hour();
        Check.due("swap(0, 1)", x.swap(0, 1), true);
        Check.dueCrew("the LEARNER stays", x, 0, 1, -1, 2);
        Check.dueCrew("none with the other", x, 1, 0, -1, -1);
        Check.due("ABOARD of", x.look(2, 8), 0);
    }

    private static void swapAndPlaces() {
        Check.sentence("Terms 4", "in the LIST at the place (from 0) at which they were as that hour() began");
        PilotStation x = Check.seniors(4);
        x.ship(false, 60, 1, 0, 1, false);
        x.ship(false, 50, 1, 0, 3, false);
        x.hour();
        x.swap(0, 1);
        x.back(0);
        Check.dueList("3, the LEADER since, to its place", x, 0, 2, 3);
        Check.due("1 is led on", x.look(1, 8), 1);
        x.back(1);
        Check.dueList("1 to its place", x, 0, 1, 2, 3);
    }

    private static void swapAndEnd() {
        Check.sentence("Terms 4", "can change LEADERS");
        PilotStation x = Check.seniors(2);
        x.ship(false, 250, 1, 6, -1, false);
        x.ship(false, 50, 1, 6, -1, false);
        Check.hoursTo(x, 6);
        x.swap(0, 1);
        x.hour();
        Check.due("0 has the END of the shorter", x.look(0, 6), 1);
        Check.due("1 has none yet", x.look(1, 5), 0);
        Check.hoursTo(x, 9);
        Check.due("1 has the END of the longer", x.look(1, 6), 3);
        Check.due("and its REST", x.look(1, 4), 9 + 8);
    }
}
