/** The boundary cases of the document's "Terms" 3: what an hour() does, who is asked, what keeps a SHIP waiting. */
public final class Terms3Test {
    public static void main(String[] args) {
        noShips();
        hourNotAboveG();
        onlyThoseThatWait();
        byLength();
        ofOneLengthByNumbers();
        theWindowAtG();
        theTideAndNobodyAsked();
        emptyList();
        fromTheFront();
        listAsItWasWhenThatSeekingBegan();
        secondSeekingBeginsAnew();
        theLeaderAside();
        twoSeconds();
        noLeaderNoSecondOne();
        Against.main();
        GoingAndWaiting.main();
        BackToTheStation.main();
        Check.end("Terms3Test");
    }

    private static void noShips() {
        Check.sentence("Promise 11", "The next HOUR, as told in 3: how many SHIPS went.");
        PilotStation x = Check.seniors(2);
        Check.due("hour()", x.hour(), 0);
        Check.dueAsked("nobody", x);
        Check.dueList("as before", x, 0, 1);
    }

    private static void hourNotAboveG() {
        Check.sentence("Terms 3", "whose HOUR is not above G");
        PilotStation x = Check.seniors(4);
        x.ship(false, 50, 1, 0, -1, false);
        x.ship(false, 40, 1, 1, -1, false);
        x.ship(false, 30, 1, 2, -1, false);
        x.ship(false, 20, 1, 3, -1, false);
        Check.due("HOURS 0 and 1 at 1", x.hour(), 2);
        Check.dueAsked("none for the others", x, Check.row(0, 0, 0), Check.row(1, 1, 0));
        Check.dueWaits("not its HOUR", x, 2, 0, 0, 0);
        Check.due("HOUR 2 at 2", x.hour(), 1);
        Check.due("it went at", x.craft(2, 1), 2);
        Check.dueWaits("not its HOUR", x, 3, 0, 0, 0);
        Check.due("HOUR 3 at 3", x.hour(), 1);
        Check.dueWaits("never waited", x, 3, 0, 0, 0);
    }

    private static void onlyThoseThatWait() {
        Check.sentence("Terms 3", "SHIPS that WAIT (neither led nor done nor turned back)");
        PilotStation x = Check.seniors(4);
        x.ship(false, 300, 1, 0, -1, false);
        x.ship(false, 50, 1, 0, -1, false);
        x.ship(false, 40, 1, 0, -1, false);
        Check.due("all", x.hour(), 3);
        Check.due("one turns back", x.back(2), true);
        Check.due("none more", x.hour(), 0);
        Check.due("one is led", x.craft(0, 0), 1);
        Check.due("one is done", x.craft(1, 0), 2);
        Check.due("one turned back", x.craft(2, 0), 3);
        Check.due("none more", x.hour(), 0);
        Check.dueAsked("nobody", x);
        for (int s = 0; s < 3; s++) {
            Check.dueWaits("kept by nothing", x, s, 0, 0, 0);
        }
    }

    private static void byLength() {
        Check.sentence("Terms 3", "by LENGTH, the greater first");
        PilotStation x = Check.seniors(4);
        int[] lengths = {399, 1, 400, 398};
        for (int length : lengths) {
            x.ship(false, length, 1, 0, -1, false);
        }
        x.hour();
        Check.dueAsked("400, 399, 398, 1", x, Check.row(2, 0, 0), Check.row(0, 1, 0), Check.row(3, 2, 0),
                Check.row(1, 3, 0));
        PilotStation y = Check.seniors(1);
        y.ship(false, 100, 1, 0, -1, false);
        y.ship(false, 101, 200, 1, -1, false);
        y.hour();
        Check.due("neither DRAUGHT nor HOUR nor number count", y.craft(1, 2), 0);
    }

    private static void ofOneLengthByNumbers() {
        Check.sentence("Terms 3", "of one LENGTH by their numbers");
        PilotStation x = Check.seniors(5);
        int[] lengths = {70, 80, 70, 80, 70};
        for (int length : lengths) {
            x.ship(false, length, 1, 0, -1, false);
        }
        x.hour();
        Check.dueAsked("80 80 70 70 70", x, Check.row(1, 0, 0), Check.row(3, 1, 0), Check.row(0, 2, 0),
                Check.row(2, 3, 0), Check.row(4, 4, 0));
    }

    private static void theWindowAtG() {
        Check.sentence("Terms 3", "without a WINDOW at G the TIDE kept it waiting");
        PilotStation x = new PilotStation();
        int[] row = {200, 49, 200, 50, 200};
        for (int draught : row) {
            x.tide(0, draught);
        }
        Check.pilots(x, 1, 2);
        x.ship(false, 10, 50, 1, -1, false);
        x.ship(false, 10, 51, 3, -1, false);
        x.hour();
        Check.dueWaits("at 1 it is too flat, NOW it was not", x, 0, 1, 0, 0);
        x.hour();
        Check.due("at 2 it goes", x.craft(0, 1), 2);
        x.hour();
        Check.dueWaits("at 3 it is too flat by 1", x, 1, 1, 0, 0);
        x.hour();
        Check.due("at 4 it goes", x.craft(1, 1), 4);
        x.ship(false, 10, 1, 5, -1, false);
        x.hour();
        Check.dueWaits("at 5 the row is over", x, 2, 1, 0, 0);
        Check.due("all", x.count(11), 3);
    }

    private static void theTideAndNobodyAsked() {
        Check.sentence("Terms 3", "without a WINDOW at G the TIDE kept it waiting");
        PilotStation x = new PilotStation();
        Check.pilots(x, 1, 2);
        x.will(0, false);
        x.ship(true, 10, 1, 0, -1, false);
        x.ship(false, 10, 1, 0, 0, false);
        Check.due("none goes", x.hour(), 0);
        for (int s = 0; s < 2; s++) {
            Check.dueWaits("by the TIDE alone", x, s, 1, 0, 0);
        }
        Check.dueAsked("nobody", x);
        Check.dueList("nobody went to its end", x, 0, 1);
    }

    private static void emptyList() {
        Check.sentence("Terms 3", "the LIST is gone over from its front");
        PilotStation x = Check.openFor(1);
        x.ship(false, 30, 1, 0, -1, true);
        x.ship(true, 20, 1, 0, -2, true);
        Check.due("none goes", x.hour(), 0);
        Check.dueAsked("nobody is there", x);
        Check.dueWaits("PILOTS", x, 0, 0, 1, 0);
        Check.dueWaits("PILOTS, not BOATS", x, 1, 0, 1, 0);
    }

    private static void fromTheFront() {
        Check.sentence("Terms 3", "The first one with nothing AGAINST is it.");
        PilotStation x = Check.openFor(1);
        x.pilot(0, 10, 10);
        x.pilot(2, 400, 200);
        x.pilot(0, 50, 50);
        x.pilot(1, 0, 0);
        x.ship(false, 50, 50, 0, -1, false);
        x.ship(false, 10, 10, 0, -1, false);
        x.hour();
        Check.dueAsked("nobody behind it is asked", x, Check.row(0, 0, 1), Check.row(0, 1, 1), Check.row(0, 2, 0),
                Check.row(1, 0, 0));
    }

    private static void listAsItWasWhenThatSeekingBegan() {
        Check.sentence("Terms 3", "as it was when that seeking began");
        PilotStation x = Check.seniors(3);
        for (int p = 0; p < 3; p++) {
            x.will(p, false);
        }
        x.ship(false, 10, 1, 0, -1, false);
        x.hour();
        Check.dueAsked("each but once, though each went to the end", x, Check.row(0, 0, 4), Check.row(0, 1, 4),
                Check.row(0, 2, 4));
        Check.dueList("all went round", x, 0, 1, 2);
        x.will(1, true);
        x.hour();
        Check.dueAsked("up to the first", x, Check.row(0, 0, 4), Check.row(0, 1, 0));
        Check.dueList("0 went to the end", x, 2, 0);
    }

    private static void secondSeekingBeginsAnew() {
        Check.sentence("Terms 3", "as it was when that seeking began");
        PilotStation x = Check.seniors(4);
        x.will(0, false);
        x.will(2, false);
        x.ship(false, 10, 1, 0, -2, false);
        Check.due("it goes", x.hour(), 1);
        Check.dueAsked("the LIST is 1 2 3 0 at the second seeking", x, Check.row(0, 0, 4), Check.row(0, 1, 0),
                Check.row(0, 2, 4), Check.row(0, 3, 0));
        Check.dueList("left", x, 0, 2);
        PilotStation y = Check.seniors(3);
        y.will(0, false);
        y.will(2, false);
        y.ship(false, 10, 1, 0, -2, false);
        Check.due("it does not go", y.hour(), 0);
        Check.dueAsked("0 is asked again, behind 2", y, Check.row(0, 0, 4), Check.row(0, 1, 0), Check.row(0, 2, 4),
                Check.row(0, 0, 4));
        Check.dueList("the LEADER found keeps the place", y, 1, 2, 0);
    }

    private static void theLeaderAside() {
        Check.sentence("Terms 3", "(the LEADER aside)");
        PilotStation x = Check.seniors(1);
        x.ship(false, 10, 1, 0, -2, false);
        Check.due("one cannot be both", x.hour(), 0);
        Check.dueAsked("not asked again", x, Check.row(0, 0, 0));
        Check.dueWaits("PILOTS", x, 0, 0, 1, 0);
        Check.dueList("still in it", x, 0);
        Check.due("still at the STATION", x.look(0, 3), 0);
        Check.dueCrew("nobody yet", x, 0, -1, -1, -1);
    }

    private static void twoSeconds() {
        Check.sentence("Terms 1", "a SECOND any that WANTS two");
        PilotStation x = Check.openFor(1);
        x.pilot(3, 0, 0);
        x.pilot(3, 0, 0);
        x.ship(false, 400, 200, 0, -1, false);
        x.ship(false, 400, 200, 0, -2, false);
        Check.due("the one that WANTS two goes", x.hour(), 1);
        Check.dueAsked("neither for the one that WANTS one", x, Check.row(0, 0, 1), Check.row(0, 1, 1),
                Check.row(1, 0, 0), Check.row(1, 1, 0));
        Check.dueCrew("two SECONDS", x, 1, 0, 1, -1);
    }

    /** Read so that there is no SECOND ONE to a LEADER who was not found: nobody is asked twice in vain. */
    private static void noLeaderNoSecondOne() {
        Check.sentence("Terms 3", "Else it SEEKS a LEADER, and if it WANTS two then a SECOND ONE");
        PilotStation x = Check.openFor(1);
        Check.pilots(x, 2, 2);
        x.ship(false, 10, 1, 0, -2, false);
        x.hour();
        Check.dueAsked("once each", x, Check.row(0, 0, 1), Check.row(0, 1, 1));
        Check.dueWaits("PILOTS", x, 0, 0, 1, 0);
    }

    /** What is AGAINST one. */
    private static final class Against {
        static void main() {
            firstOneThatHolds();
            licenceAheadOfDayOff();
            dayOffAheadOfPlace();
            placeAheadOfWill();
            outFromThePost();
            inFromThePost();
            inFromTheStation();
            seatsOfNow();
            seatsUsedUp();
            seatsNotUsed();
            theLeadersSeat();
            theLeaderFromThePost();
            toTheEndAtOnce();
            toldOneAlone();
            toldOneNotInTheList();
            toldOneToTheEnd();
        }

        /** Bits of what holds against each of 16 pilots, one at a time and together, for a SHIP IN without SEATS. */
        private static void firstOneThatHolds() {
            Check.sentence("Terms 3", "of these the first that holds");
            for (int seats = 0; seats <= 1; seats++) {
                PilotStation x = Check.openFor(1);
                for (int bits = 0; bits < 8; bits++) {
                    x.pilot(0, (bits & 1) == 0 ? 50 : 49, 50);
                    x.off(bits, 0, (bits & 2) != 0);
                    x.will(bits, (bits & 4) == 0);
                    x.ship(true, 50, 50, 0, bits, false);
                }
                if (seats == 1) {
                    x.boat(Check.ALL_DAY, 20);
                }
                x.hour();
                for (int bits = 0; bits < 8; bits++) {
                    int due = (bits & 1) != 0 ? 1 : (bits & 2) != 0 ? 2 : seats == 0 ? 3 : (bits & 4) != 0 ? 4 : 0;
                    Check.due("seats " + seats + ", against pilot " + bits, x.asked(bits, 2), due);
                }
            }
        }

        private static void licenceAheadOfDayOff() {
            Check.sentence("Terms 3", "1 they MAY not lead it; 2 the DAY of G is OFF for them");
            PilotStation x = Check.openFor(1);
            x.pilot(0, 10, 10);
            x.pilot(0, 11, 10);
            x.off(0, 0, true);
            x.off(1, 0, true);
            x.ship(false, 11, 10, 0, -1, false);
            x.hour();
            Check.dueAsked("longer than the first LICENCE", x, Check.row(0, 0, 1), Check.row(0, 1, 2));
        }

        private static void dayOffAheadOfPlace() {
            Check.sentence("Terms 3", "2 the DAY of G is OFF for them; 3 they cannot be there");
            PilotStation x = Check.seniors(2);
            x.off(0, 0, true);
            x.ship(true, 11, 10, 0, -1, false);
            x.hour();
            Check.dueAsked("no SEATS", x, Check.row(0, 0, 2), Check.row(0, 1, 3));
        }

        private static void placeAheadOfWill() {
            Check.sentence("Terms 3", "4 they are not WILLING: they go to the LIST's end at once");
            PilotStation x = Check.seniors(2);
            x.will(0, false);
            x.ship(true, 11, 10, 0, -1, false);
            x.hour();
            Check.dueAsked("no SEATS", x, Check.row(0, 0, 3), Check.row(0, 1, 3));
            Check.dueList("with 3 AGAINST the place is kept", x, 0, 1);
        }

        /** A station with so many seniors, all of them at the POST and in the LIST by their numbers, at NOW 2. */
        private static PilotStation atThePost(int many) {
            PilotStation x = Check.seniors(many);
            x.rest(0, 0, 0);
            for (int s = 0; s < many; s++) {
                x.ship(false, 50, 1, 1, s, false);
            }
            Check.hoursTo(x, 2);
            Check.due("at the POST", x.look(many - 1, 3), 1);
            return x;
        }

        private static void outFromThePost() {
            Check.sentence("Terms 3", "to go OUT they are not at the STATION");
            PilotStation x = atThePost(1);
            x.boat(Check.ALL_DAY, 20);
            x.ship(false, 10, 1, 0, -1, false);
            Check.due("the boat leaves the POST first", x.hour(), 0);
            Check.dueAsked("at the POST", x, Check.row(1, 0, 3));
            Check.due("at the STATION now", x.look(0, 3), 0);
            Check.due("it goes with the next HOUR", x.hour(), 1);
        }

        private static void inFromThePost() {
            Check.sentence("Terms 3", "to come IN they are not at the POST, nor at the STATION with one of NOW's SEATS OUT left for them");
            PilotStation x = atThePost(2);
            x.ship(true, 10, 1, 0, -2, false);
            Check.due("without any SEATS", x.hour(), 1);
            Check.dueCrew("both from the POST", x, 2, 0, 1, -1);
        }

        private static void inFromTheStation() {
            Check.sentence("Terms 3", "nor at the STATION with one of NOW's SEATS OUT left for them");
            PilotStation x = Check.seniors(2);
            x.ship(true, 10, 1, 0, -1, false);
            x.hour();
            Check.dueAsked("no SEATS", x, Check.row(0, 0, 3), Check.row(0, 1, 3));
            x.boat(Check.ALL_DAY, 1);
            x.hour();
            Check.dueAsked("one SEAT", x, Check.row(0, 0, 0));
        }

        private static void seatsOfNow() {
            Check.sentence("Terms 3", "with one of NOW's SEATS OUT left for them");
            PilotStation x = Check.seniors(1);
            x.boat(1 << 5, 1);
            x.ship(true, 10, 1, 5, -1, false);
            Check.hoursTo(x, 5);
            Check.dueWaits("SEATS OUT of 5 are none of 4", x, 0, 0, 0, 1);
            x.hour();
            Check.due("it goes at 6, by those of 5", x.craft(0, 1), 6);
            PilotStation y = Check.seniors(1);
            y.boat(1 << 23, 1);
            y.ship(true, 10, 1, 24, -1, false);
            Check.hoursTo(y, 24);
            Check.due("over the end of a DAY", y.craft(0, 1), 24);
            PilotStation z = Check.seniors(1);
            z.boat(1, 1);
            z.ship(true, 10, 1, 0, -1, false);
            z.hour();
            Check.due("by the SEATS OUT of 0", z.craft(0, 1), 1);
        }

        private static void seatsUsedUp() {
            Check.sentence("Terms 3", "with one of NOW's SEATS OUT left for them");
            PilotStation x = Check.seniors(5);
            x.boat(1, 1);
            x.boat(1, 2);
            x.ship(true, 50, 1, 0, -2, false);
            x.ship(true, 40, 1, 0, -1, false);
            x.ship(true, 30, 1, 0, -1, false);
            x.ship(false, 20, 1, 0, -1, false);
            Check.due("the three SEATS, and one OUT", x.hour(), 3);
            Check.dueAsked("none is left for the third", x, Check.row(0, 0, 0), Check.row(0, 1, 0), Check.row(1, 2, 0),
                    Check.row(2, 3, 3), Check.row(2, 4, 3), Check.row(3, 3, 0));
            Check.dueWaits("BOATS", x, 2, 0, 0, 1);
        }

        private static void seatsNotUsed() {
            Check.sentence("Terms 3", "with one of NOW's SEATS OUT left for them");
            PilotStation x = Check.seniors(3);
            Check.pilots(x, 2, 1);
            x.boat(Check.ALL_DAY, 1);
            x.ship(false, 60, 1, 0, -2, true);
            x.ship(true, 50, 1, 0, -1, false);
            Check.due("to go OUT nobody needs a SEAT", x.hour(), 2);
            Check.dueCrew("two and a LEARNER", x, 0, 0, 1, 3);
            Check.dueCrew("by the one SEAT", x, 1, 2, -1, -1);
            PilotStation y = atThePost(2);
            Check.pilots(y, 1, 1);
            y.boat(1 << 2, 1);
            y.ship(true, 60, 1, 0, -2, false);
            y.ship(true, 50, 1, 0, -1, false);
            Check.due("from the POST nobody needs a SEAT", y.hour(), 2);
            Check.dueCrew("both from the POST", y, 2, 0, 1, -1);
            Check.dueCrew("by the one SEAT", y, 3, 2, -1, -1);
        }

        private static void theLeadersSeat() {
            Check.sentence("Terms 3", "(the LEADER of this SHIP, if from the STATION, has one)");
            PilotStation x = Check.seniors(2);
            x.boat(Check.ALL_DAY, 1);
            x.ship(true, 50, 1, 0, -2, false);
            x.ship(true, 40, 1, 0, -1, false);
            Check.due("the SEAT is free again for the next SHIP", x.hour(), 1);
            Check.dueAsked("none for a SECOND ONE", x, Check.row(0, 0, 0), Check.row(0, 1, 3), Check.row(1, 0, 0));
            Check.dueWaits("BOATS", x, 0, 0, 0, 1);
            x.boat(Check.ALL_DAY, 1);
            Check.pilots(x, 1, 1);
            Check.due("with two SEATS", x.hour(), 1);
            Check.dueCrew("both from the STATION", x, 0, 1, 2, -1);
        }

        private static void theLeaderFromThePost() {
            Check.sentence("Terms 3", "(the LEADER of this SHIP, if from the STATION, has one)");
            PilotStation x = atThePost(1);
            Check.pilots(x, 1, 1);
            x.ship(true, 50, 1, 0, -2, false);
            x.boat(1 << 2, 1);
            Check.due("it goes", x.hour(), 1);
            Check.dueCrew("the one SEAT is for the SECOND ONE", x, 1, 0, 1, -1);
        }

        private static void toTheEndAtOnce() {
            Check.sentence("Terms 3", "4 they are not WILLING: they go to the LIST's end at once");
            PilotStation x = Check.seniors(3);
            x.will(0, false);
            x.ship(false, 50, 1, 0, -1, false);
            x.ship(false, 40, 1, 0, -1, false);
            x.ship(false, 30, 1, 0, -1, false);
            x.hour();
            Check.dueAsked("the next SHIP finds them at the end", x, Check.row(0, 0, 4), Check.row(0, 1, 0),
                    Check.row(1, 2, 0), Check.row(2, 0, 4));
            Check.dueList("left", x, 0);
        }

        private static void toldOneAlone() {
            Check.sentence("Terms 3", "If it WANTS a told one that one alone is asked (5: not in the LIST, ahead of 1).");
            PilotStation x = Check.seniors(1);
            x.pilot(0, 9, 9);
            Check.pilots(x, 0, 3);
            x.off(2, 0, true);
            x.will(4, false);
            x.ship(false, 60, 1, 0, 1, false);
            x.ship(false, 50, 1, 0, 2, false);
            x.ship(true, 40, 1, 0, 3, false);
            x.ship(false, 30, 1, 0, 4, false);
            x.ship(false, 20, 1, 0, 3, false);
            Check.due("one goes", x.hour(), 1);
            Check.dueAsked("never another", x, Check.row(0, 1, 1), Check.row(1, 2, 2), Check.row(2, 3, 3),
                    Check.row(3, 4, 4), Check.row(4, 3, 0));
            Check.dueWaits("1", x, 0, 0, 1, 0);
            Check.dueWaits("2", x, 1, 0, 1, 0);
            Check.dueWaits("3 at the STATION", x, 2, 0, 0, 1);
            Check.dueWaits("4", x, 3, 0, 1, 0);
        }

        private static void toldOneNotInTheList() {
            Check.sentence("Terms 3", "(5: not in the LIST, ahead of 1)");
            PilotStation x = Check.seniors(1);
            x.pilot(0, 60, 60);
            x.ship(false, 60, 1, 0, 1, false);
            x.hour();
            x.off(1, 0, true);
            x.will(1, false);
            x.ship(true, 399, 1, 0, 1, false);
            x.hour();
            Check.dueAsked("may not lead, is OFF, not there, not WILLING", x, Check.row(1, 1, 5));
            Check.dueWaits("PILOTS, for the BOAT is not why", x, 1, 0, 1, 0);
            Check.dueList("no other", x, 0);
        }

        private static void toldOneToTheEnd() {
            Check.sentence("Terms 3", "4 they are not WILLING: they go to the LIST's end at once");
            PilotStation x = Check.seniors(3);
            x.will(0, false);
            x.ship(false, 60, 1, 0, 0, false);
            x.hour();
            Check.dueList("also when told", x, 1, 2, 0);
        }
    }

    /** If all were found, and if not. */
    private static final class GoingAndWaiting {
        static void main() {
            itGoes();
            firstLearnerOfTheList();
            learnerWhoIsOff();
            learnerWhoIsNotWilling();
            learnerWithoutASeat();
            learnerAtThePost();
            learnerTakesASeat();
            withoutALearner();
            noLearnerForAShipThatWaits();
            byBoats();
            byBoatsForTheSecondOne();
            byPilotsAtThePost();
            byThoseAskedForItAlone();
            theyStayAtTheEnd();
        }

        private static void itGoes() {
            Check.sentence("Terms 3", "If all that it WANTS were found it goes, at G: they are ABOARD, off the LIST, and have their SEATS");
            PilotStation x = Check.seniors(3);
            x.ship(false, 60, 1, 0, -2, false);
            Check.due("one SHIP", x.hour(), 1);
            Check.due("it is led", x.craft(0, 0), 1);
            Check.due("at G", x.craft(0, 1), 1);
            Check.dueList("the third", x, 2);
            for (int p = 0; p < 2; p++) {
                Check.due("ABOARD", x.look(p, 3), 2);
                Check.due("of it", x.look(p, 8), 0);
                Check.due("off the LIST", x.look(p, 7), -1);
            }
            Check.dueWaits("by nothing", x, 0, 0, 0, 0);
        }

        private static void firstLearnerOfTheList() {
            Check.sentence("Terms 3", "the first LEARNER of the LIST who is not OFF, can be there"
                    + " (as 3, of the SEATS that are left) and is WILLING is ABOARD likewise");
            PilotStation x = Check.seniors(2);
            x.pilot(2, 0, 0);
            Check.pilots(x, 2, 1);
            x.ship(false, 400, 200, 0, -1, true);
            x.ship(false, 40, 1, 0, -1, true);
            x.hour();
            Check.dueCrew("whatever the LICENCE", x, 0, 0, -1, 2);
            Check.dueCrew("the next", x, 1, 1, -1, 3);
            Check.dueAsked("LEARNERS along are not asked so", x, Check.row(0, 0, 0), Check.row(1, 1, 0));
            Check.dueList("off the LIST", x);
            Check.due("ABOARD", x.look(2, 3), 2);
            Check.due("of it", x.look(2, 8), 0);
        }

        private static void learnerWhoIsOff() {
            Check.sentence("Terms 3", "the first LEARNER of the LIST who is not OFF");
            PilotStation x = Check.seniors(2);
            Check.pilots(x, 2, 2);
            x.off(2, 0, true);
            x.off(3, 1, true);
            x.ship(false, 40, 1, 23, -1, true);
            x.ship(false, 40, 1, 24, -1, true);
            Check.hoursTo(x, 24);
            Check.dueCrew("OFF at DAY 0", x, 0, 0, -1, 3);
            Check.dueCrew("not at DAY 1", x, 1, 1, -1, 2);
            PilotStation y = Check.seniors(1);
            Check.pilots(y, 2, 1);
            y.off(1, 1, true);
            y.ship(false, 40, 1, 24, -1, true);
            Check.hoursTo(y, 24);
            Check.dueCrew("the DAY of G", y, 0, 0, -1, -1);
        }

        private static void learnerWhoIsNotWilling() {
            Check.sentence("Terms 3", "and is WILLING is ABOARD likewise");
            PilotStation x = Check.openFor(1);
            Check.pilots(x, 2, 2);
            Check.pilots(x, 1, 2);
            x.will(0, false);
            x.ship(false, 40, 1, 0, 2, true);
            x.hour();
            Check.dueCrew("the next LEARNER", x, 0, 2, -1, 1);
            Check.dueList("who is not WILLING keeps the place, being not asked", x, 0, 3);
        }

        private static void learnerWithoutASeat() {
            Check.sentence("Terms 3", "(as 3, of the SEATS that are left)");
            for (int seats = 1; seats <= 3; seats++) {
                PilotStation x = Check.seniors(2);
                Check.pilots(x, 2, 1);
                x.boat(Check.ALL_DAY, seats);
                x.ship(true, 40, 1, 0, -2, true);
                int went = x.hour();
                Check.due(seats + " SEATS: it goes", went, seats < 2 ? 0 : 1);
                Check.dueCrew(seats + " SEATS", x, 0, seats < 2 ? -1 : 0, seats < 2 ? -1 : 1, seats < 3 ? -1 : 2);
                Check.due(seats + " SEATS: the LEARNER's place", x.look(2, 7), seats < 2 ? 2 : seats < 3 ? 0 : -1);
                Check.dueWaits("BOATS for the SECOND ONE, none for a LEARNER", x, 0, 0, 0, seats < 2 ? 1 : 0);
            }
        }

        private static void learnerAtThePost() {
            Check.sentence("Terms 3", "can be there (as 3, of the SEATS that are left)");
            PilotStation x = Check.seniors(3);
            Check.pilots(x, 2, 2);
            x.rest(0, 0, 0);
            x.off(4, 0, true);
            x.ship(false, 50, 1, 1, 0, true);
            Check.hoursTo(x, 2);
            x.off(4, 0, false);
            Check.dueList("0 and 3 are at the POST", x, 1, 2, 4, 0, 3);
            x.ship(true, 50, 1, 3, 0, true);
            x.ship(false, 40, 1, 3, 1, true);
            x.hour();
            Check.dueCrew("IN from the POST, without SEATS", x, 1, 0, -1, 3);
            Check.dueCrew("OUT from the STATION", x, 2, 1, -1, 4);
            PilotStation y = Check.seniors(2);
            Check.pilots(y, 2, 1);
            y.rest(0, 0, 0);
            y.ship(false, 50, 1, 1, 0, true);
            y.ship(false, 50, 1, 3, 1, true);
            Check.hoursTo(y, 3);
            Check.dueCrew("none to go OUT from the POST", y, 1, 1, -1, -1);
        }

        private static void learnerTakesASeat() {
            Check.sentence("Terms 3", "is ABOARD likewise");
            PilotStation x = Check.seniors(2);
            Check.pilots(x, 2, 1);
            x.boat(Check.ALL_DAY, 2);
            x.ship(true, 50, 1, 0, -1, true);
            x.ship(true, 40, 1, 0, -1, false);
            Check.due("one goes", x.hour(), 1);
            Check.dueCrew("with the LEARNER", x, 0, 0, -1, 2);
            Check.dueWaits("for the SEAT that the LEARNER has", x, 1, 0, 0, 1);
        }

        private static void withoutALearner() {
            Check.sentence("Terms 3", "without one it goes all the same");
            PilotStation x = Check.seniors(2);
            x.ship(false, 50, 1, 0, -1, true);
            Check.due("it goes", x.hour(), 1);
            Check.dueCrew("none in the LIST", x, 0, 0, -1, -1);
            Check.dueWaits("kept by nothing", x, 0, 0, 0, 0);
            PilotStation y = Check.seniors(1);
            Check.pilots(y, 2, 1);
            y.ship(false, 50, 1, 0, -1, false);
            y.hour();
            Check.dueCrew("none along with it", y, 0, 0, -1, -1);
            Check.dueList("the LEARNER stays", y, 1);
        }

        private static void noLearnerForAShipThatWaits() {
            Check.sentence("Terms 3", "then, with a LEARNER along, the first LEARNER of the LIST");
            PilotStation x = Check.openFor(1);
            Check.pilots(x, 2, 1);
            x.ship(false, 50, 1, 0, -1, true);
            x.hour();
            Check.dueCrew("nobody", x, 0, -1, -1, -1);
            Check.dueList("the LEARNER stays", x, 0);
        }

        private static void byBoats() {
            Check.sentence("Terms 3", "Else BOATS kept it waiting, if one of those asked for it by this hour() had 3 AGAINST,"
                    + " and was at the STATION, the SHIP coming IN; else PILOTS did.");
            PilotStation x = Check.openFor(1);
            Check.pilots(x, 2, 1);
            Check.pilots(x, 1, 2);
            x.off(2, 0, true);
            x.ship(true, 50, 1, 0, -1, false);
            x.hour();
            Check.dueAsked("one of them", x, Check.row(0, 0, 1), Check.row(0, 1, 3), Check.row(0, 2, 2));
            Check.dueWaits("BOATS", x, 0, 0, 0, 1);
            x.off(1, 0, true);
            x.hour();
            Check.dueWaits("none of them: PILOTS", x, 0, 0, 1, 1);
            x.off(1, 0, false);
            x.will(1, false);
            x.boat(Check.ALL_DAY, 1);
            x.hour();
            Check.dueAsked("4 with a SEAT", x, Check.row(0, 0, 1), Check.row(0, 1, 4), Check.row(0, 2, 2));
            Check.dueWaits("PILOTS", x, 0, 0, 2, 1);
            Check.due("all by PILOTS", x.count(12), 2);
            Check.due("all by BOATS", x.count(13), 1);
        }

        private static void byBoatsForTheSecondOne() {
            Check.sentence("Terms 3", "if one of those asked for it by this hour() had 3 AGAINST");
            PilotStation x = Against.atThePost(1);
            Check.pilots(x, 1, 1);
            x.ship(true, 50, 1, 0, -2, false);
            x.hour();
            Check.dueAsked("the LEADER from the POST", x, Check.row(1, 0, 0), Check.row(1, 1, 3));
            Check.dueWaits("BOATS", x, 1, 0, 0, 1);
        }

        private static void byPilotsAtThePost() {
            Check.sentence("Terms 3", "and was at the STATION, the SHIP coming IN; else PILOTS did");
            PilotStation x = Against.atThePost(1);
            x.ship(false, 50, 1, 0, -1, false);
            x.hour();
            Check.dueAsked("3, at the POST", x, Check.row(1, 0, 3));
            Check.dueWaits("PILOTS", x, 1, 0, 1, 0);
            PilotStation y = Against.atThePost(1);
            y.ship(true, 50, 1, 0, -2, false);
            y.hour();
            Check.dueAsked("one alone at the POST", y, Check.row(1, 0, 0));
            Check.dueWaits("PILOTS", y, 1, 0, 1, 0);
        }

        private static void byThoseAskedForItAlone() {
            Check.sentence("Terms 3", "if one of those asked for it by this hour() had 3 AGAINST");
            PilotStation x = Check.seniors(1);
            x.pilot(0, 9, 9);
            x.ship(true, 50, 1, 0, -1, false);
            x.ship(true, 40, 1, 0, 1, false);
            x.hour();
            Check.dueAsked("the other SHIP's 3", x, Check.row(0, 0, 3), Check.row(0, 1, 1), Check.row(1, 1, 1));
            Check.dueWaits("BOATS", x, 0, 0, 0, 1);
            Check.dueWaits("PILOTS", x, 1, 0, 1, 0);
            x.off(0, 0, true);
            x.hour();
            Check.dueWaits("not what an hour() before had", x, 0, 0, 1, 1);
        }

        private static void theyStayAtTheEnd() {
            Check.sentence("Terms 3", "(Whoever went to the end for it stays there.)");
            PilotStation x = Check.openFor(1);
            Check.pilots(x, 1, 1);
            Check.pilots(x, 2, 1);
            x.will(0, false);
            x.ship(false, 50, 1, 0, -1, false);
            x.hour();
            Check.dueWaits("it did not go", x, 0, 0, 1, 0);
            Check.dueList("at the end", x, 1, 0);
        }
    }

    /** SEATS BACK, and what comes with the new NOW. */
    private static final class BackToTheStation {
        static void main() {
            seatsBackOfNow();
            whoCameFirst();
            ofOneHourByNumbers();
            fewerSeats();
            moreSeats();
            theyKeepTheirPlaces();
            alsoWhoRests();
            notWhoIsNowAboard();
            notWhoComesWithTheHour();
            endsAreBehindTheBoat();
        }

        /** Who leads a SHIP OUT of one HOUR at each of the told HOURS, by number; long REST. */
        private static PilotStation outAt(int... hours) {
            PilotStation x = Check.seniors(hours.length);
            for (int p = 0; p < hours.length; p++) {
                x.ship(false, 50, 1, hours[p], p, false);
            }
            return x;
        }

        private static void duePlaces(String when, PilotStation x, int... places) {
            for (int p = 0; p < places.length; p++) {
                Check.due(when + ": where pilot " + p + " is", x.look(p, 3), places[p]);
            }
        }

        private static void seatsBackOfNow() {
            Check.sentence("Terms 3", "Then SEATS BACK of NOW");
            PilotStation x = outAt(1);
            x.boat(1 << 4, 1);
            Check.hoursTo(x, 5);
            duePlaces("the boat is at the POST", x, 1);
            x.hour();
            duePlaces("the boat is back", x, 0);
        }

        private static void whoCameFirst() {
            Check.sentence("Terms 3", "those at the POST (not now ABOARD) who were there longest go to the STATION");
            PilotStation x = outAt(3, 2, 1);
            x.boat(1 << 5 | 1 << 6, 1);
            Check.hoursTo(x, 6);
            duePlaces("all at the POST", x, 1, 1, 1);
            x.hour();
            duePlaces("who came at 2", x, 1, 1, 0);
            x.hour();
            duePlaces("who came at 3", x, 1, 0, 0);
            x.hour();
            duePlaces("no more boats", x, 1, 0, 0);
        }

        private static void ofOneHourByNumbers() {
            Check.sentence("Terms 3", "(who came first, of one HOUR by numbers; they keep their places in the LIST)");
            PilotStation x = Check.seniors(3);
            x.ship(false, 50, 1, 2, 2, false);
            x.ship(false, 150, 1, 1, 1, false);
            x.ship(false, 250, 1, 0, -1, false);
            x.boat(1 << 5, 2);
            Check.hoursTo(x, 7);
            duePlaces("0 came at 4, 1 and 2 at 3", x, 1, 0, 0);
            PilotStation y = outAt(1, 1, 1);
            y.boat(1 << 5, 2);
            Check.hoursTo(y, 7);
            duePlaces("all came at 2", y, 0, 0, 1);
        }

        private static void fewerSeats() {
            Check.sentence("Terms 3", "as many as there are SEATS");
            for (int seats = 1; seats <= 4; seats++) {
                PilotStation x = outAt(1, 1, 1, 1);
                x.boat(1 << 5, seats);
                Check.hoursTo(x, 7);
                for (int p = 0; p < 4; p++) {
                    Check.due(seats + " SEATS, pilot " + p, x.look(p, 3), p < seats ? 0 : 1);
                }
            }
        }

        private static void moreSeats() {
            Check.sentence("Terms 3", "as many as there are SEATS");
            PilotStation x = outAt(1, 30);
            for (int b = 0; b < 12; b++) {
                x.boat(Check.ALL_DAY, 20);
            }
            Check.hoursTo(x, 3);
            duePlaces("more SEATS than are at the POST", x, 0, 0);
        }

        private static void theyKeepTheirPlaces() {
            Check.sentence("Terms 3", "they keep their places in the LIST");
            PilotStation x = outAt(2, 1, 30);
            x.rest(0, 0, 0);
            x.boat(1 << 5, 1);
            Check.hoursTo(x, 6);
            Check.dueList("as they came", x, 2, 1, 0);
            x.hour();
            duePlaces("1 is at the STATION", x, 1, 0, 0);
            Check.dueList("the same", x, 2, 1, 0);
        }

        private static void alsoWhoRests() {
            Check.sentence("Terms 3", "those at the POST (not now ABOARD) who were there longest");
            PilotStation x = outAt(1, 2);
            x.rest(48, 0, 0);
            x.boat(1 << 5, 1);
            Check.hoursTo(x, 7);
            Check.dueList("both rest", x);
            duePlaces("0 went back", x, 0, 1);
        }

        private static void notWhoIsNowAboard() {
            Check.sentence("Terms 3", "(not now ABOARD)");
            PilotStation x = outAt(1, 2);
            x.rest(0, 0, 0);
            x.boat(1 << 5, 1);
            x.ship(true, 50, 1, 7, 0, false);
            Check.hoursTo(x, 7);
            duePlaces("0 is taken by a SHIP, so 1 has the SEAT", x, 2, 0);
        }

        private static void notWhoComesWithTheHour() {
            Check.sentence("Terms 3", "Then NOW is G: SHIPS whose END it is come to it");
            PilotStation x = outAt(6);
            x.boat(1 << 5 | 1 << 6, 1);
            Check.hoursTo(x, 7);
            duePlaces("comes when the boat has left", x, 1);
            x.hour();
            duePlaces("with the next", x, 0);
        }

        private static void endsAreBehindTheBoat() {
            Check.sentence("Terms 3", "the ROAD ends for those who are through, and the LIST is as told");
            PilotStation x = Check.seniors(1);
            x.rest(0, 0, 0);
            x.boat(Check.ALL_DAY, 1);
            x.ship(true, 50, 1, 1, -1, false);
            x.ship(false, 40, 1, 1, -1, false);
            Check.hoursTo(x, 2);
            duePlaces("the ROAD of 1 begins with the END", x, 3);
            x.hour();
            duePlaces("through", x, 0);
            Check.dueList("in the LIST with that HOUR", x, 0);
            Check.dueWaits("not in the LIST as it was sought", x, 1, 0, 3, 0);
            Check.due("then it goes", x.hour(), 1);
        }
    }
}
