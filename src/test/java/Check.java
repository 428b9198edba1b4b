import java.io.IOException;
import java.nio.file.Files;
import java.nio.file.Path;
import java.util.function.BooleanSupplier;

/** Counts answers that are not the ones that are due; every test here ends by end(). */
final class Check {
    static final Class<IllegalArgumentException> ARGUMENT = IllegalArgumentException.class;
    static final Class<IndexOutOfBoundsException> INDEX = IndexOutOfBoundsException.class;
    static final Class<UnsupportedOperationException> FULL = UnsupportedOperationException.class;
    /** Every CLOCK has its bit. */
    static final int ALL_DAY = 16777215;

    private static final Path DOCUMENT = Path.of("../shared/DOC.md");
    private static final String WORDS_OF_THE_DOCUMENT = words();

    private static int made = 0;
    private static int wrong = 0;
    private static String sentence = "";

    private Check() {
    }

    private static String words() {
        try {
            return inOneLine(Files.readString(DOCUMENT));
        } catch (IOException e) {
            System.out.println("no document at " + DOCUMENT + ": the sentences are not looked up in it");
            return null;
        }
    }

    private static String inOneLine(String text) {
        return text.replaceAll("\\s+", " ");
    }

    /** The sentence of the document by which the answers from here on are due; it must stand there word by word. */
    static void sentence(String place, String words) {
        sentence = place + ": \"" + words + "\"";
        made++;
        if (WORDS_OF_THE_DOCUMENT != null && !WORDS_OF_THE_DOCUMENT.contains(inOneLine(words))) {
            fail("the document does not say so");
        }
    }

    private static void fail(String what) {
        wrong++;
        System.out.println((sentence.isEmpty() ? "" : sentence + "\n    ") + what);
    }

    static void due(String call, long got, long want) {
        made++;
        if (got != want) {
            fail(call + " answered " + got + ", due is " + want);
        }
    }

    static void due(String call, boolean got, boolean want) {
        due(call, got ? 1 : 0, want ? 1 : 0);
    }

    /** The class must be the very one, and the throw one of PilotStation's own, not the library's or the machine's. */
    static void throwing(String call, Class<? extends RuntimeException> want, Runnable run) {
        made++;
        String got = "nothing";
        try {
            run.run();
        } catch (RuntimeException e) {
            got = isOwnThrow(e) ? e.getClass().getSimpleName() : "a throw from outside: " + e;
        }
        if (!got.equals(want.getSimpleName())) {
            fail(call + " threw " + got + ", due is " + want.getSimpleName());
        }
    }

    /** It throws, and all that the face tells of the station is behind it as it was ahead of it. */
    static void throwing(PilotStation station, String call, Class<? extends RuntimeException> want, Runnable run) {
        String before = State.told(station);
        throwing(call, want, run);
        due(call + " threw; that nothing has changed", State.told(station).equals(before), true);
    }

    /** It answers false, and all that the face tells of the station is behind it as it was ahead of it. */
    static void refused(PilotStation station, String call, BooleanSupplier run) {
        String before = State.told(station);
        due(call, run.getAsBoolean(), false);
        due(call + " was refused; that nothing has changed", State.told(station).equals(before), true);
    }

    static boolean isOwnThrow(RuntimeException e) {
        StackTraceElement[] trace = e.getStackTrace();
        Class<?> c = e.getClass();
        boolean allowed = c == ARGUMENT || c == INDEX || c == FULL;
        return allowed && trace.length > 0 && trace[0].getClassName().startsWith("PilotStation");
    }

    /** The LIST, from its front, must hold these numbers and no more. */
    static void dueList(String when, PilotStation station, int... numbers) {
        for (int k = 0; k < numbers.length; k++) {
            due(when + ": list(" + k + ")", station.list(k), numbers[k]);
        }
        due(when + ": list(" + numbers.length + ")", station.list(numbers.length), PilotStation.NONE);
        due(when + ": count(10)", station.count(10), numbers.length);
    }

    static int[] row(int ship, int pilot, int against) {
        return new int[] {ship, pilot, against};
    }

    /** Those asked in the latest hour() must be these rows of SHIP, PILOT, AGAINST and no more. */
    static void dueAsked(String when, PilotStation station, int[]... rows) {
        due(when + ": count(14)", station.count(14), rows.length);
        for (int i = 0; i < rows.length; i++) {
            for (int what = 0; what < 3; what++) {
                due(when + ": asked(" + i + ", " + what + ")", station.asked(i, what), rows[i][what]);
            }
        }
        due(when + ": asked(" + rows.length + ", 0)", station.asked(rows.length, 0), PilotStation.NONE);
    }

    /** How many HOURS a ship was kept waiting by TIDE, PILOTS, BOATS. */
    static void dueWaits(String when, PilotStation station, int ship, int tide, int pilots, int boats) {
        due(when + ": ship " + ship + " kept by the TIDE", station.craft(ship, 5), tide);
        due(when + ": ship " + ship + " kept by PILOTS", station.craft(ship, 6), pilots);
        due(when + ": ship " + ship + " kept by BOATS", station.craft(ship, 7), boats);
    }

    /** LEADER, SECOND ONE and LEARNER along of a ship. */
    static void dueCrew(String when, PilotStation station, int ship, int leader, int second, int learner) {
        due(when + ": leader of ship " + ship, station.craft(ship, 2), leader);
        due(when + ": second one of ship " + ship, station.craft(ship, 3), second);
        due(when + ": learner along with ship " + ship, station.craft(ship, 4), learner);
    }

    /** A station whose first days have full rows through which every ship may go. */
    static PilotStation openFor(int days) {
        PilotStation station = new PilotStation();
        for (int day = 0; day < days; day++) {
            open(station, day);
        }
        return station;
    }

    static void open(PilotStation station, int day) {
        for (int clock = 0; clock < 24; clock++) {
            station.tide(day, 200);
        }
    }

    /** So many more pilots of a kind, with the greatest LICENCE. */
    static void pilots(PilotStation station, int kind, int many) {
        for (int i = 0; i < many; i++) {
            station.pilot(kind, 400, 200);
        }
    }

    /** A station with so many SENIORS and two days without any hindrance by tides. */
    static PilotStation seniors(int many) {
        PilotStation station = openFor(2);
        pilots(station, 1, many);
        return station;
    }

    static void hours(PilotStation station, int many) {
        for (int i = 0; i < many; i++) {
            station.hour();
        }
    }

    static void hoursTo(PilotStation station, int now) {
        hours(station, now - station.count(0));
    }

    static void end(String test) {
        System.out.println(test + ": " + made + " answers, " + wrong + " not as due");
        if (wrong != 0) {
            System.exit(1);
        }
    }
}
