import java.util.function.ToIntFunction;

/** Short ways to call, for the tests. */
final class Acts {
    private Acts() {
    }

    /** Types a text, calls perform() and empties the text again. */
    static int perform(TagWindows x, String orders) {
        type(x, orders);
        int answer = x.perform();
        x.clearText();
        return answer;
    }

    static void type(TagWindows x, String text) {
        for (int i = 0; i < text.length(); i++) {
            x.type(text.charAt(i));
        }
    }

    /** The call must answer an error or NONE, and change nothing. */
    static void refused(String call, TagWindows x, ToIntFunction<TagWindows> f, int want) {
        String was = Told.all(x);
        Check.due(call, f.applyAsInt(x), want);
        Check.due(call + " changes nothing, so the plant", Told.all(x), was);
    }

    /** The call must answer that, record one state, and be taken back by undo(). */
    static void done(String call, TagWindows x, ToIntFunction<TagWindows> f, int want) {
        String was = Told.state(x);
        int states = Math.min(4, x.count(15) + 1);
        Check.due(call, f.applyAsInt(x), want);
        Check.due(call + " is an act, so the states", x.count(15), states);
        String then = Told.state(x);
        Check.due("undo() of " + call, x.undo(), states - 1);
        Check.due("undo() of " + call + " brings back", Told.state(x), was);
        Check.due(call + " again", f.applyAsInt(x), want);
        Check.due(call + " again makes", Told.state(x), then);
    }
}
