import java.util.Collections;
import java.util.List;
import java.util.function.Function;
import java.util.function.ToIntFunction;

/** Everything that can be learnt of an object, as a text, to see whether a call has changed it. */
final class Told {
    /** Each look has an object of its own, so that none of them makes more than 512 calls. */
    private static final List<Function<TagWindows, String>> LOOKS =
            List.of(Told::things, Told::tasks, Told::bars);

    private Told() {
    }

    /** The state alone: without the text, the history and the snapshot. */
    static String state(Replay r) {
        StringBuilder s = new StringBuilder();
        for (Function<TagWindows, String> look : LOOKS) {
            s.append(look.apply(r.twin())).append('\n');
        }
        return s.toString();
    }

    /** The state behind some calls of undo(). */
    static String back(Replay r, int times) {
        return state(r.and(Collections.nCopies(times, p -> p.undo())));
    }

    /** What restore() answers, and the state that it brings back, if there is a snapshot. */
    static String snapshot(Replay r) {
        int answer = r.twin().restore();
        return "restore() " + answer + "\n" + (answer < 0 ? "" : state(r.and(p -> p.restore())));
    }

    /** The length of the text, and what its orders do. */
    static String text(Replay r) {
        return "text " + r.twin().count(16) + ", perform() " + r.twin().perform() + "\n"
                + state(r.and(p -> p.perform()));
    }

    /** All that there is: the state, all of the history, the text and the snapshot. */
    static String whole(Replay r) {
        StringBuilder s = new StringBuilder();
        for (int times = 0; times <= 4; times++) {
            s.append("undo() ").append(times).append(" times\n").append(back(r, times));
        }
        s.append("history ").append(answers(r, 5, p -> p.undo()));
        return s.append('\n').append(text(r)).append(snapshot(r)).toString();
    }

    private static String answers(Replay r, int times, ToIntFunction<TagWindows> f) {
        TagWindows x = r.twin();
        StringBuilder s = new StringBuilder().append(x.count(15));
        for (int i = 0; i < times; i++) {
            s.append(' ').append(f.applyAsInt(x));
        }
        return s.toString();
    }

    private static String things(TagWindows x) {
        StringBuilder s = new StringBuilder("counts");
        for (int what = 0; what <= 14; what++) {
            s.append(' ').append(x.count(what));
        }
        int assets = x.count(1);
        for (int a = 0; a < assets; a++) {
            s.append("\nasset ").append(a).append(':');
            for (int what = 0; what <= 7; what++) {
                s.append(' ').append(x.asset(a, what));
            }
            for (int what = 0; what <= 2; what++) {
                s.append(' ').append(Float.floatToIntBits(x.real(a, what)));
            }
            s.append(" tags");
            for (int place = 0; place <= 6; place++) {
                s.append(' ').append(x.tagAt(a, place));
            }
        }
        int crews = x.count(3);
        for (int c = 0; c < crews; c++) {
            s.append("\ncrew ").append(c).append(':');
            for (int what = 0; what <= 4; what++) {
                s.append(' ').append(x.crew(c, what));
            }
        }
        return s.toString();
    }

    private static String tasks(TagWindows x) {
        StringBuilder s = new StringBuilder("tasks");
        int tasks = x.count(4);
        for (int t = 0; t < tasks; t++) {
            s.append("\ntask ").append(t).append(':');
            for (int what = 0; what <= 12; what++) {
                s.append(' ').append(x.task(t, what));
            }
        }
        return s.toString();
    }

    /** Nothing tells of the bars, but bar() answers NONE where there is none to be taken away. */
    private static String bars(TagWindows x) {
        StringBuilder s = new StringBuilder("bars");
        for (int kind = 0; kind <= 4; kind++) {
            for (int other = kind; other <= 4; other++) {
                s.append(' ').append(x.bar(kind, other, false) == TagWindows.NONE ? '.' : 'x');
            }
        }
        return s.toString();
    }
}
