/** Counts answers that are not the ones that are due; every test here ends by end(). */
final class Check {
    private static int made = 0;
    private static int wrong = 0;

    private Check() {
    }

    static void due(String call, long got, long want) {
        made++;
        if (got != want) {
            wrong++;
            System.out.println(call + " answered " + got + ", due is " + want);
        }
    }

    static void due(String call, boolean got, boolean want) {
        due(call, got ? 1 : 0, want ? 1 : 0);
    }

    /** The class must be the very one, and the throw one of PilotStation's own, not the library's or the machine's. */
    static void throwing(String call, Class<? extends RuntimeException> want, Runnable run) {
        made++;
        String got = "nothing";
        try {
            run.run();
        } catch (RuntimeException e) {
            got = isOwnThrow(e) ? e.getClass().getSimpleName() : "a throw from outside: " + e;
        }
        if (!got.equals(want.getSimpleName())) {
            wrong++;
            System.out.println(call + " threw " + got + ", due is " + want.getSimpleName());
        }
    }

    static boolean isOwnThrow(RuntimeException e) {
        StackTraceElement[] trace = e.getStackTrace();
        Class<?> c = e.getClass();
        boolean allowed = c == IllegalArgumentException.class || c == IndexOutOfBoundsException.class
                || c == UnsupportedOperationException.class;
        return allowed && trace.length > 0 && trace[0].getClassName().startsWith("PilotStation");
    }

    /** The LIST, from its front, must hold these numbers and no more. */
    static void dueList(String when, PilotStation station, int... numbers) {
        for (int k = 0; k < numbers.length; k++) {
            due(when + ": list(" + k + ")", station.list(k), numbers[k]);
        }
        due(when + ": list(" + numbers.length + ")", station.list(numbers.length), PilotStation.NONE);
        due(when + ": count(10)", station.count(10), numbers.length);
    }

    /** Those asked in the latest hour() must be these rows of SHIP, PILOT, AGAINST and no more. */
    static void dueAsked(String when, PilotStation station, int[]... rows) {
        due(when + ": count(14)", station.count(14), rows.length);
        for (int i = 0; i < rows.length; i++) {
            for (int what = 0; what < 3; what++) {
                due(when + ": asked(" + i + ", " + what + ")", station.asked(i, what), rows[i][what]);
            }
        }
        due(when + ": asked(" + rows.length + ", 0)", station.asked(rows.length, 0), PilotStation.NONE);
    }

    /** A station whose first days have full rows through which every ship may go. */
    static PilotStation openFor(int days) {
        PilotStation station = new PilotStation();
        for (int day = 0; day < days; day++) {
            for (int clock = 0; clock < 24; clock++) {
                station.tide(day, 200);
            }
        }
        return station;
    }

    static void hours(PilotStation station, int many) {
        for (int i = 0; i < many; i++) {
            station.hour();
        }
    }

    static void end(String test) {
        System.out.println(test + ": " + made + " answers, " + wrong + " not as due");
        if (wrong != 0) {
            System.exit(1);
        }
    }
}
