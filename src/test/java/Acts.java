import java.util.function.ToIntFunction;

/** Short ways to call, for the tests. */
final class Acts {
    /** A call with the argument that is tried. */
    interface Call {
        int of(TagWindows x, int value);
    }

    private Acts() {
    }

    /** Types a text, calls perform() and empties the text again. */
    static int perform(Replay x, String orders) {
        type(x, orders);
        int answer = x.perform();
        x.clearText();
        return answer;
    }

    static void type(Replay x, String text) {
        for (int i = 0; i < text.length(); i++) {
            x.type(text.charAt(i));
        }
    }

    /** The call must answer that and change nothing: not the state, nor text, history, snapshot. */
    static void refused(String call, Replay x, ToIntFunction<TagWindows> f, int want) {
        Check.due(call, f.applyAsInt(x.twin()), want);
        Check.due(call + " changes nothing, so the whole", x.and(f).whole(), x.whole());
    }

    /** What is only told must be told so, and telling changes nothing either. */
    static void told(String call, Replay x, ToIntFunction<TagWindows> f, int want) {
        refused(call, x, f, want);
    }

    /** The call must answer that, and record the state that was before it, and nothing more. */
    static void act(String call, Replay x, ToIntFunction<TagWindows> f, int want) {
        Check.due(call, f.applyAsInt(x.twin()), want);
        Replay then = x.and(f);
        int states = Math.min(4, x.count(15) + 1);
        Check.due(call + " is an act, so the states", then.count(15), states);
        Check.due("undo() of " + call, then.twin().undo(), states - 1);
        for (int times = 0; times < states; times++) {
            Check.due(call + " and undo() " + (times + 1) + " times",
                    Told.back(then, times + 1), Told.back(x, times));
        }
        Check.due(call + " leaves the snapshot, so it", Told.snapshot(then), Told.snapshot(x));
        Check.due(call + " leaves the text, so its length", then.count(16), x.count(16));
    }

    /** An act that stays done then. */
    static void done(String call, Replay x, ToIntFunction<TagWindows> f, int want) {
        act(call, x, f, want);
        Check.due(call, x.call(f), want);
    }

    /** The least and the greatest value make an act; the ones just outside and far away do not. */
    static void range(String call, Replay x, Call f, int least, int most, int want, int error) {
        act(call + " with the least, " + least, x, p -> f.of(p, least), want);
        act(call + " with the greatest, " + most, x, p -> f.of(p, most), want);
        outside(call, x, f, least, most, error);
    }

    /** The values just outside and far away are refused. */
    static void outside(String call, Replay x, Call f, int least, int most, int error) {
        int[] wrong = {least - 1, most + 1, Integer.MIN_VALUE, Integer.MAX_VALUE};
        for (int w : wrong) {
            refused(call + " with " + w, x, p -> f.of(p, w), error);
        }
    }
}
