/** The boundary cases of the document's promises 15 to 23: the calls that tell, with each NONE, 0 and false. */
public final class Promises15To23Test {
    private static final int LEAST = Integer.MIN_VALUE;
    private static final int MOST = Integer.MAX_VALUE;

    public static void main(String[] args) {
        mayThrows();
        windowOfNoHour();
        windowThrows();
        seatsOfNoHour();
        listOfNoPlace();
        listOfSixty();
        askedOfNone();
        askedOfOthers();
        askedAheadOfAny();
        askedBehindUndo();
        askedInTheLatestAlone();
        askedWithoutLearnersAlong();
        threeHundredAreKept();
        lookThrows();
        lookRestedAheadOfAnyEnd();
        lookNone();
        lookDaysOff();
        craftThrows();
        craftAheadOfGoing();
        craftBehindItsEnd();
        craftTurnedBack();
        fairOfNone();
        fairOfOthers();
        fairOfTheGreatest();
        countOfOthers();
        countOfThoseThatWait();
        countOfAll();
        countAsked();
        Check.end("Promises15To23Test");
    }

    private static void mayThrows() {
        Check.sentence("Promise 15", "Whether a PILOT MAY lead a SHIP.");
        PilotStation x = new PilotStation();
        Check.pilots(x, 1, 2);
        x.ship(true, 1, 1, 0, -1, false);
        x.ship(true, 1, 1, 0, -1, false);
        Check.due("the last of both", x.may(1, 1), true);
        for (int none : new int[] {-1, 2, LEAST, MOST}) {
            Check.throwing(x, "may(" + none + ", 0)", Check.INDEX, () -> x.may(none, 0));
            Check.throwing(x, "may(0, " + none + ")", Check.INDEX, () -> x.may(0, none));
        }
    }

    private static void windowOfNoHour() {
        Check.sentence("Promise 16", "Whether a SHIP has a WINDOW at an HOUR (false for what is none).");
        PilotStation x = new PilotStation();
        Check.open(x, 0);
        Check.open(x, 399);
        x.ship(true, 1, 1, 0, -1, false);
        Check.due("the first HOUR", x.window(0, 0), true);
        Check.due("the last HOUR", x.window(0, 9599), true);
        for (int none : new int[] {-1, -24, 9600, 9601, LEAST, MOST}) {
            Check.due("window(0, " + none + ")", x.window(0, none), false);
        }
    }

    private static void windowThrows() {
        Check.sentence("Terms 4, below", "IndexOutOfBoundsException: there is no such PILOT, SHIP or DAY.");
        PilotStation x = Check.openFor(1);
        x.ship(true, 1, 1, 0, -1, false);
        for (int none : new int[] {-1, 1, LEAST, MOST}) {
            Check.throwing(x, "window(" + none + ", 0)", Check.INDEX, () -> x.window(none, 0));
            Check.throwing(x, "window(" + none + ", -1)", Check.INDEX, () -> x.window(none, -1));
        }
    }

    private static void seatsOfNoHour() {
        Check.sentence("Promise 17", "SEATS OUT of an HOUR, or SEATS BACK; 0 for what is none.");
        PilotStation x = new PilotStation();
        x.boat(Check.ALL_DAY, 3);
        Check.due("the first HOUR, OUT", x.seats(0, true), 3);
        Check.due("the last HOUR, OUT", x.seats(9599, true), 3);
        Check.due("the last HOUR, BACK", x.seats(9599, false), 3);
        for (int none : new int[] {-1, -23, -24, 9600, 9601, LEAST, MOST}) {
            Check.due("seats(" + none + ", true)", x.seats(none, true), 0);
            Check.due("seats(" + none + ", false)", x.seats(none, false), 0);
        }
    }

    private static void listOfNoPlace() {
        Check.sentence("Promise 18", "NONE if there is none such");
        PilotStation x = new PilotStation();
        Check.due("of an empty LIST", x.list(0), -1);
        Check.pilots(x, 1, 2);
        Check.due("the last place", x.list(1), 1);
        for (int none : new int[] {-1, 2, LEAST, MOST}) {
            Check.due("list(" + none + ")", x.list(none), -1);
        }
    }

    private static void listOfSixty() {
        Check.sentence("Promise 18", "The PILOT at place k (from 0 on) of the LIST");
        PilotStation x = new PilotStation();
        Check.pilots(x, 1, 60);
        for (int k = 0; k < 60; k++) {
            Check.due("list(" + k + ")", x.list(k), k);
        }
        Check.due("list(60)", x.list(60), -1);
    }

    private static void askedOfNone() {
        Check.sentence("Promise 19", "NONE if there is none such");
        PilotStation x = Check.seniors(1);
        x.ship(false, 50, 1, 0, -1, false);
        x.hour();
        Check.due("number 0", x.asked(0, 1), 0);
        for (int none : new int[] {-1, 1, 299, 300, LEAST, MOST}) {
            for (int what = 0; what <= 2; what++) {
                Check.due("asked(" + none + ", " + what + ")", x.asked(none, what), -1);
            }
        }
    }

    private static void askedOfOthers() {
        Check.sentence("Promise 19", "for another what");
        PilotStation x = Check.seniors(2);
        x.will(0, false);
        x.ship(false, 50, 1, 9, -1, false);
        x.ship(false, 40, 1, 0, -1, false);
        x.hour();
        Check.due("what 0 the SHIP", x.asked(1, 0), 1);
        Check.due("1 the PILOT", x.asked(1, 1), 1);
        Check.due("2 what was AGAINST (0 nothing)", x.asked(1, 2), 0);
        Check.due("what was AGAINST", x.asked(0, 2), 4);
        for (int what : new int[] {-1, 3, LEAST, MOST}) {
            Check.due("asked(0, " + what + ")", x.asked(0, what), -1);
        }
    }

    private static void askedAheadOfAny() {
        Check.sentence("Promise 19", "ahead of any hour()");
        PilotStation x = Check.seniors(1);
        x.ship(false, 50, 1, 0, -1, false);
        for (int what = 0; what <= 2; what++) {
            Check.due("asked(0, " + what + ")", x.asked(0, what), -1);
        }
    }

    private static void askedBehindUndo() {
        Check.sentence("Promise 19", "behind undo()");
        PilotStation x = Check.seniors(2);
        x.ship(false, 50, 1, 0, -1, false);
        x.ship(false, 50, 1, 2, -1, false);
        x.hour();
        x.hour();
        Check.due("one asked", x.asked(0, 0), 1);
        x.undo();
        for (int what = 0; what <= 2; what++) {
            Check.due("asked(0, " + what + ")", x.asked(0, what), -1);
        }
        x.will(0, true);
        Check.due("also behind another call", x.asked(0, 0), -1);
        x.hour();
        Check.dueAsked("behind a new hour()", x, Check.row(1, 1, 0));
    }

    private static void askedInTheLatestAlone() {
        Check.sentence("Promise 19", "Of those asked in the latest hour(), as they were asked");
        PilotStation x = Check.openFor(1);
        Check.pilots(x, 2, 2);
        x.ship(false, 50, 1, 1, -1, false);
        x.ship(false, 60, 1, 1, 1, false);
        x.hour();
        Check.dueAsked("the longer SHIP first", x, Check.row(1, 1, 1), Check.row(0, 0, 1), Check.row(0, 1, 1));
        x.tear(0);
        x.hour();
        Check.dueAsked("nobody in the latest", x);
    }

    private static void askedWithoutLearnersAlong() {
        Check.sentence("Promise 19", "(LEARNERS along are not asked so.)");
        PilotStation x = Check.seniors(1);
        Check.pilots(x, 2, 2);
        x.will(1, false);
        x.ship(false, 50, 1, 0, -1, true);
        x.hour();
        Check.dueCrew("a LEARNER is along", x, 0, 0, -1, 2);
        Check.dueAsked("the LEADER alone", x, Check.row(0, 0, 0));
        PilotStation y = Check.openFor(1);
        Check.pilots(y, 2, 1);
        Check.pilots(y, 1, 1);
        y.ship(false, 50, 1, 0, -1, true);
        y.hour();
        Check.dueCrew("the same LEARNER is along", y, 0, 1, -1, 0);
        Check.dueAsked("as a LEADER a LEARNER was asked too", y, Check.row(0, 0, 1), Check.row(0, 1, 0));
    }

    /** A station with 60 LEARNERS, each of whom is asked in vain by each of so many SHIPS; one SHIP asks 0 alone. */
    private static PilotStation asking(int ships, boolean oneMore) {
        PilotStation x = Check.openFor(1);
        Check.pilots(x, 2, 60);
        for (int s = 0; s < ships; s++) {
            x.ship(false, 400 - s, 1, 0, -1, false);
        }
        if (oneMore) {
            x.ship(false, 1, 1, 0, 7, false);
        }
        x.hour();
        return x;
    }

    private static void threeHundredAreKept() {
        Check.sentence("Promise 19", "(the first 300 are kept)");
        PilotStation x = asking(5, false);
        Check.due("300", x.count(14), 300);
        Check.due("the 300th, the SHIP", x.asked(299, 0), 4);
        Check.due("the 300th, the PILOT", x.asked(299, 1), 59);
        Check.due("the 300th, AGAINST", x.asked(299, 2), 1);
        PilotStation y = asking(5, true);
        Check.due("301", y.count(14), 301);
        for (int what = 0; what <= 2; what++) {
            Check.due("the 301st", y.asked(300, what), -1);
        }
        Check.due("the 300th", y.asked(299, 1), 59);
        PilotStation z = asking(4, true);
        Check.due("241", z.count(14), 241);
        Check.due("the 241st", z.asked(240, 1), 7);
        PilotStation all = asking(300, false);
        Check.due("all are counted", all.count(14), 18000);
        Check.due("the first stays the first", all.asked(0, 0), 0);
        all.tear(0);
        all.hour();
        Check.dueAsked("nobody", all);
    }

    private static void lookThrows() {
        Check.sentence("Promise 20", "IllegalArgumentException: another what.");
        PilotStation x = new PilotStation();
        Check.pilots(x, 1, 2);
        Check.due("the last what", x.look(1, 10), 0);
        for (int what : new int[] {-1, 11, LEAST, MOST}) {
            Check.throwing(x, "look(0, " + what + ")", Check.ARGUMENT, () -> x.look(0, what));
        }
        Check.sentence("Terms 4, below", "Of several exceptions the one told first is thrown");
        for (int pilot : new int[] {-1, 2, LEAST, MOST}) {
            Check.throwing(x, "look(" + pilot + ", 0)", Check.INDEX, () -> x.look(pilot, 0));
            Check.throwing(x, "look(" + pilot + ", 11)", Check.INDEX, () -> x.look(pilot, 11));
        }
    }

    private static void lookRestedAheadOfAnyEnd() {
        Check.sentence("Promise 20", "4 the HOUR from which on they are RESTED (0 ahead of any END)");
        PilotStation x = Check.seniors(1);
        x.ship(false, 150, 1, 5, -1, false);
        for (int hour = 0; hour < 7; hour++) {
            Check.due("at " + hour, x.look(0, 4), 0);
            x.hour();
        }
        Check.due("behind its END", x.look(0, 4), 7 + 8 + 4);
    }

    private static void lookNone() {
        Check.sentence("Promise 20", "7 the place in the LIST (NONE if not in it), 8 the SHIP on which they are ABOARD (NONE)");
        PilotStation x = Check.seniors(2);
        x.ship(false, 50, 1, 0, 0, false);
        Check.due("the first place", x.look(0, 7), 0);
        Check.due("ABOARD of none", x.look(0, 8), -1);
        x.hour();
        Check.due("no place", x.look(0, 7), -1);
        Check.due("ABOARD of SHIP 0", x.look(0, 8), 0);
        Check.due("the first place now", x.look(1, 7), 0);
        x.hour();
        Check.due("rests", x.look(0, 7), -1);
        Check.due("ABOARD of none", x.look(0, 8), -1);
    }

    private static void lookDaysOff() {
        Check.sentence("Promise 20", "10 how many DAYS are OFF");
        PilotStation x = new PilotStation();
        Check.pilots(x, 1, 1);
        for (int day = 0; day < 400; day++) {
            Check.due("DAYS OFF", x.look(0, 10), day);
            x.off(0, day, true);
        }
        Check.due("DAYS OFF", x.look(0, 10), 400);
        Check.hours(x, 30);
        Check.due("those behind NOW count too", x.look(0, 10), 400);
    }

    private static void craftThrows() {
        Check.sentence("Promise 21", "IllegalArgumentException: another what.");
        PilotStation x = new PilotStation();
        x.ship(true, 1, 1, 0, -1, false);
        x.ship(true, 2, 7, 0, -1, false);
        Check.due("the last what", x.craft(1, 9), 7);
        for (int what : new int[] {-1, 10, LEAST, MOST}) {
            Check.throwing(x, "craft(0, " + what + ")", Check.ARGUMENT, () -> x.craft(0, what));
        }
        Check.sentence("Terms 4, below", "Of several exceptions the one told first is thrown");
        for (int ship : new int[] {-1, 2, LEAST, MOST}) {
            Check.throwing(x, "craft(" + ship + ", 0)", Check.INDEX, () -> x.craft(ship, 0));
            Check.throwing(x, "craft(" + ship + ", 10)", Check.INDEX, () -> x.craft(ship, 10));
        }
    }

    private static void craftAheadOfGoing() {
        Check.sentence("Promise 21", "1 the HOUR at which it went (NONE ahead of that)");
        PilotStation x = Check.seniors(1);
        x.ship(false, 50, 1, 2, -1, false);
        Check.due("ahead of that", x.craft(0, 1), -1);
        x.hour();
        Check.due("ahead of that", x.craft(0, 1), -1);
        Check.dueCrew("nobody", x, 0, -1, -1, -1);
        x.hour();
        Check.due("at which it went", x.craft(0, 1), 2);
        Check.hours(x, 3);
        Check.due("also behind its END", x.craft(0, 1), 2);
    }

    private static void craftBehindItsEnd() {
        Check.sentence("Promise 21", "4 the LEARNER along (NONE without such; also behind its END; NONE of one that turned back)");
        PilotStation x = Check.seniors(3);
        Check.pilots(x, 2, 1);
        x.rest(0, 0, 0);
        x.boat(Check.ALL_DAY, 9);
        x.ship(false, 60, 1, 0, -2, true);
        x.ship(false, 50, 1, 0, -1, true);
        x.ship(true, 40, 1, 5, 0, false);
        x.hour();
        Check.dueCrew("all three", x, 0, 0, 1, 3);
        Check.dueCrew("without such", x, 1, 2, -1, -1);
        Check.hours(x, 6);
        Check.due("done", x.craft(0, 0), 2);
        Check.dueCrew("also behind its END, and when they lead others", x, 0, 0, 1, 3);
        Check.dueCrew("without such", x, 1, 2, -1, -1);
        Check.dueCrew("without such", x, 2, 0, -1, -1);
    }

    private static void craftTurnedBack() {
        Check.sentence("Promise 21", "NONE of one that turned back");
        PilotStation x = Check.seniors(2);
        Check.pilots(x, 2, 1);
        x.ship(false, 60, 9, 0, -2, true);
        x.hour();
        Check.dueCrew("all three", x, 0, 0, 1, 2);
        x.back(0);
        Check.dueCrew("none", x, 0, -1, -1, -1);
        int[] due = {3, 1, -1, -1, -1, 0, 0, 0, 60, 9};
        for (int what = 0; what < due.length; what++) {
            Check.due("craft(0, " + what + ")", x.craft(0, what), due[what]);
        }
    }

    private static void fairOfNone() {
        Check.sentence("Promise 22", "0 if there are no two such");
        PilotStation x = Check.openFor(1);
        Check.due("nobody", x.fair(), 0);
        Check.pilots(x, 1, 1);
        x.ship(false, 50, 1, 0, -1, false);
        Check.hours(x, 2);
        Check.due("a TURN", x.look(0, 5), 1);
        Check.due("one alone", x.fair(), 0);
        Check.pilots(x, 1, 1);
        Check.due("two such", x.fair(), 1);
    }

    private static void fairOfOthers() {
        Check.sentence("Promise 22", "two PILOTS of one KIND, LENGTH, DRAUGHT and number of DAYS OFF");
        PilotStation x = Check.openFor(1);
        x.pilot(0, 100, 50);
        x.ship(false, 50, 1, 0, 0, false);
        x.pilot(1, 100, 50);
        x.pilot(0, 99, 50);
        x.pilot(0, 101, 50);
        x.pilot(0, 100, 49);
        x.pilot(0, 100, 51);
        x.pilot(0, 100, 50);
        x.off(6, 3, true);
        Check.hours(x, 2);
        Check.due("each is another in one of the four", x.fair(), 0);
        x.off(0, 399, true);
        Check.due("as many DAYS OFF, if other ones", x.fair(), 1);
        x.off(6, 4, true);
        Check.due("two and one", x.fair(), 0);
        x.off(6, 3, false);
        Check.due("one and one", x.fair(), 1);
    }

    private static void fairOfTheGreatest() {
        Check.sentence("Promise 22", "The greatest difference of the TURNS of two PILOTS");
        PilotStation x = Check.seniors(3);
        Check.pilots(x, 0, 2);
        x.rest(0, 0, 0);
        x.boat(Check.ALL_DAY, 9);
        int[] leaders = {1, 1, 1, 2, 3, 3};
        for (int leader : leaders) {
            x.ship(false, 50, 1, 0, leader, false);
        }
        Check.hours(x, 12);
        Check.due("TURNS", x.look(1, 5), 3);
        Check.due("0, 3 and 1 of the SENIORS, 2 and 0 of the others", x.fair(), 3);
        PilotStation y = Check.seniors(1);
        Check.pilots(y, 0, 3);
        y.ship(false, 300, 1, 0, 1, false);
        y.ship(false, 200, 1, 0, 3, false);
        Check.hours(y, 6);
        Check.due("HOURS LED are none of it", y.look(1, 6), 4);
        Check.due("1, 0 and 1 of those behind the first", y.fair(), 1);
        y.off(2, 0, true);
        Check.due("1 and 1", y.fair(), 0);
    }

    private static void countOfOthers() {
        Check.sentence("Promise 23", "NONE for another what.");
        PilotStation x = Check.seniors(1);
        Check.due("the last", x.count(14), 0);
        for (int what : new int[] {-1, 15, LEAST, MOST}) {
            Check.due("count(" + what + ")", x.count(what), -1);
        }
    }

    private static void countOfThoseThatWait() {
        Check.sentence("Promise 23", "4 SHIPS that WAIT (whatever their HOUR)");
        PilotStation x = Check.seniors(1);
        x.ship(false, 50, 1, 0, -1, false);
        x.ship(false, 50, 1, 1, -1, false);
        x.ship(false, 50, 1, 9599, -1, false);
        Check.due("all", x.count(4), 3);
        x.hour();
        Check.due("one went", x.count(4), 2);
        Check.due("one is led", x.count(5), 1);
        x.back(0);
        Check.due("it does not WAIT again", x.count(4), 2);
        Check.due("it is not led", x.count(5), 0);
        Check.due("it turned back", x.count(7), 1);
    }

    private static void countOfAll() {
        Check.sentence("Promise 23", "8 all TURNS, 9 all HOURS LED, 10 the LIST's length, 11, 12, 13 all HOURS waited for TIDE, PILOTS, BOATS");
        PilotStation x = Check.seniors(3);
        x.tear(1);
        x.ship(false, 399, 1, 20, -2, false);
        x.ship(true, 50, 1, 22, -1, false);
        x.ship(false, 40, 1, 22, 0, false);
        Check.hoursTo(x, 24);
        Check.due("all TURNS", x.count(8), 2);
        Check.due("all HOURS LED", x.count(9), 8);
        Check.due("the LIST's length", x.count(10), 1);
        Check.due("for the TIDE, at 24", x.count(11), 2);
        Check.due("for PILOTS, at 22 and 23", x.count(12), 2);
        Check.due("for BOATS, at 22 and 23", x.count(13), 2);
        Check.due("were led to their END", x.count(6), 1);
    }

    private static void countAsked() {
        Check.sentence("Promise 23", "14 those asked in the latest hour() (all; 0 ahead of any, behind undo())");
        PilotStation x = Check.openFor(1);
        Check.pilots(x, 2, 60);
        for (int s = 0; s < 6; s++) {
            x.ship(false, 50, 1, 0, -1, false);
        }
        Check.due("ahead of any", x.count(14), 0);
        x.hour();
        Check.due("all, beyond the 300", x.count(14), 360);
        Check.due("undo()", x.undo(), true);
        Check.due("behind undo()", x.count(14), 0);
        x.hour();
        Check.due("again", x.count(14), 360);
        x.will(0, false);
        Check.due("undo() is refused", x.undo(), false);
        Check.due("as before", x.count(14), 360);
    }
}
