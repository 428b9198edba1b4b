/** What the face tells of a station, as a text, so that two states can be compared. */
final class State {
    private State() {
    }

    /** All but those asked, which undo() does not bring back. */
    static String of(PilotStation x) {
        StringBuilder text = new StringBuilder();
        for (int what = 0; what < 14; what++) {
            text.append(x.count(what)).append(' ');
        }
        for (int p = 0; p < x.count(1); p++) {
            text.append("| p").append(p).append(' ');
            for (int what = 0; what <= 10; what++) {
                text.append(x.look(p, what)).append(' ');
            }
        }
        for (int s = 0; s < x.count(2); s++) {
            text.append("| s").append(s).append(' ');
            for (int what = 0; what <= 9; what++) {
                text.append(x.craft(s, what)).append(' ');
            }
        }
        text.append("| list");
        for (int k = 0; k < x.count(10); k++) {
            text.append(' ').append(x.list(k));
        }
        return text.toString();
    }

    /** Also those asked, who may lead what, the windows of some days and the seats. */
    static String told(PilotStation x) {
        StringBuilder text = new StringBuilder(of(x));
        text.append("| fair ").append(x.fair()).append(" asked ").append(x.count(14));
        for (int i = 0; i < Math.min(x.count(14), 301); i++) {
            text.append(" /").append(x.asked(i, 0)).append(' ').append(x.asked(i, 1)).append(' ').append(x.asked(i, 2));
        }
        text.append("| seats");
        for (int hour = 0; hour <= 48; hour++) {
            text.append(' ').append(x.seats(hour, true)).append(' ').append(x.seats(hour, false));
        }
        for (int s = 0; s < x.count(2); s++) {
            text.append("| s").append(s).append(' ');
            for (int p = 0; p < x.count(1); p++) {
                text.append(x.may(p, s) ? '+' : '-');
            }
            for (int hour = 0; hour < 72; hour++) {
                text.append(x.window(s, hour) ? '+' : '-').append(x.window(s, 9599 - hour) ? '+' : '-');
            }
        }
        return text.toString();
    }
}
