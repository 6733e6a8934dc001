/** Everything that an object tells, as a text, to see whether a call has changed something. */
final class Told {
    private Told() {
    }

    /** The state alone: without the text and the history. */
    static String state(TagWindows x) {
        StringBuilder s = new StringBuilder();
        for (int what = 0; what <= 14; what++) {
            s.append(x.count(what)).append(' ');
        }
        for (int a = 0; a < x.count(1); a++) {
            s.append("\nasset ").append(a).append(':');
            for (int what = 0; what <= 7; what++) {
                s.append(' ').append(x.asset(a, what));
            }
            for (int what = 0; what <= 2; what++) {
                s.append(' ').append(Float.floatToIntBits(x.real(a, what)));
            }
            s.append(' ').append(Float.floatToIntBits(x.healthIn(a, 7)));
            s.append(' ').append(x.hoursTo(a, 50)).append(" tags");
            for (int place = 0; place <= x.asset(a, 1); place++) {
                s.append(' ').append(x.tagAt(a, place));
            }
        }
        for (int c = 0; c < x.count(3); c++) {
            s.append("\ncrew ").append(c).append(':');
            for (int what = 0; what <= 4; what++) {
                s.append(' ').append(x.crew(c, what));
            }
        }
        for (int t = 0; t < x.count(4); t++) {
            s.append("\ntask ").append(t).append(':');
            for (int what = 0; what <= 12; what++) {
                s.append(' ').append(x.task(t, what));
            }
            s.append(' ').append(x.crewFor(t));
        }
        return s.toString();
    }

    static String all(TagWindows x) {
        return state(x) + "\nhistory " + x.count(15) + " text " + x.count(16);
    }
}
