/** All that the face tells of a station but those asked, as a text, so that two states can be compared. */
final class State {
    private State() {
    }

    static String of(PilotStation x) {
        StringBuilder text = new StringBuilder();
        for (int what = 0; what < 14; what++) {
            text.append(x.count(what)).append(' ');
        }
        for (int p = 0; p < x.count(1); p++) {
            text.append("| p").append(p).append(' ');
            for (int what = 0; what <= 10; what++) {
                text.append(x.look(p, what)).append(' ');
            }
        }
        for (int s = 0; s < x.count(2); s++) {
            text.append("| s").append(s).append(' ');
            for (int what = 0; what <= 9; what++) {
                text.append(x.craft(s, what)).append(' ');
            }
        }
        text.append("| list");
        for (int k = 0; k < x.count(10); k++) {
            text.append(' ').append(x.list(k));
        }
        return text.toString();
    }
}
