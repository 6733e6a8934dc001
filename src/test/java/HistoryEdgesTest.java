import java.util.ArrayList;
import java.util.List;
import java.util.function.ToIntFunction;

/**
 * Promises 17 to 19, and what the document says of the history and of errors, edge by edge: each
 * sentence that names a boundary case has a test of its own, which quotes it.
 */
public final class HistoryEdgesTest {
    private static final int NONE = TagWindows.NONE;

    public static void main(String[] args) {
        undoOfAnEmptyHistory();
        undoOfOneToFourStates();
        theFifthRecordDropsTheOldest();
        eachActIsRecorded();
        undoRestoresTheLatest();
        actsBehindUndo();
        undoIsNoAct();
        whatIsRefusedIsNotRecorded();
        whatIsToldIsNotRecorded();
        keepIsNoAct();
        keepTellsTheHour();
        keepInPlaceOfTheOneThatWas();
        restoreOfAnEmptySnapshot();
        restoreOfASnapshotOfNothing();
        restoreIsAnAct();
        restoreLeavesTheSnapshot();
        restoreToTheSameState();
        undoLeavesTheSnapshot();
        restoreLeavesTextAndHistory();
        theWholeStateComesBack();
        fiveHundredAndTwelveCalls();
        Check.end();
    }

    private static void undoOfAnEmptyHistory() {
        Acts.refused("17 undo() of a new one", new Replay(), p -> p.undo(), NONE);
        Replay x = Plants.small();
        for (int i = 0; i < 4; i++) {
            x.undo();
        }
        Acts.refused("17 undo() when all are undone", x, p -> p.undo(), NONE);
        x.undo();
        Acts.refused("17 undo() again", x, p -> p.undo(), NONE);
    }

    /** "Returns the number of states that are left". */
    private static void undoOfOneToFourStates() {
        for (int states = 1; states <= 4; states++) {
            Replay x = new Replay();
            List<String> were = new ArrayList<>();
            for (int i = 0; i < states; i++) {
                were.add(Told.state(x));
                x.addAsset(1 + i, 1);
            }
            Check.due("17 states", x.count(15), states);
            for (int left = states - 1; left >= 0; left--) {
                Check.due("17 undo()", x.undo(), left);
                Check.due("17 states left", x.count(15), left);
                Check.due("17 the state", Told.state(x), were.get(left));
            }
            Acts.refused("17 undo() behind them", x, p -> p.undo(), NONE);
        }
    }

    /** "at most 4 states is kept; when one more is recorded, the oldest one is dropped". */
    private static void theFifthRecordDropsTheOldest() {
        for (int acts = 4; acts <= 11; acts++) {
            Replay x = new Replay();
            for (int i = 1; i <= acts; i++) {
                Acts.done("17 the act " + i, x, p -> p.pass(1), 0);
                Check.due("17 states", x.count(15), Math.min(4, i));
            }
            for (int left = 3; left >= 0; left--) {
                Check.due("17 undo()", x.undo(), left);
                Check.due("17 the hour", x.count(0), acts - 4 + left);
            }
            Acts.refused("17 what is dropped does not come back", x, p -> p.undo(), NONE);
        }
    }

    /**
     * Tasks in all states, an asset that runs, a snapshot of another state and a text, with so many
     * states in the history.
     */
    private static Replay busyPlant(int states) {
        Replay x = Plants.allStates();
        x.keep();
        x.run(6);
        x.link(5, 6, true);
        x.bar(3, 4, true);
        Acts.type(x, "h0c2;p3");
        for (int i = 0; i < 4; i++) {
            x.bar(0, 4, i % 2 == 0);
        }
        for (int i = 4; i > states; i--) {
            x.undo();
        }
        return x;
    }

    /** "Each call of a method that is described as an act .. records the state that was before it." */
    private static void eachActIsRecorded() {
        List<ToIntFunction<TagWindows>> acts = List.of(
                p -> p.link(0, 7, true), p -> p.bar(1, 2, true), p -> p.addCrew(2, 3),
                p -> p.addTask(0, 1, 1, 0, 1, 101), p -> p.run(7), p -> p.stop(6), p -> p.hang(0, 2),
                p -> p.begin(1), p -> p.lift(3, 0), p -> p.cancel(0), p -> p.pass(10),
                p -> p.perform(), p -> p.restore());
        int[] want = {1, 1, 3, 7, 2, 0, 1, 102, 0, 0, 1, 2, 101};
        for (int states = 0; states <= 4; states++) {
            for (int i = 0; i < want.length; i++) {
                Acts.act("17 the act " + i + " behind " + states, busyPlant(states), acts.get(i), want[i]);
            }
        }
        Acts.act("17 addAsset behind 0", new Replay(), p -> p.addAsset(1, 1), 0);
        Acts.act("17 addAsset behind 4", Plants.small(), p -> p.addAsset(1, 1), 2);
    }

    /** "undo() removes and restores the latest one". */
    private static void undoRestoresTheLatest() {
        Replay x = Plants.small();
        String first = Told.state(x);
        x.run(0);
        String second = Told.state(x);
        x.pass(1);
        Check.due("17 undo()", x.undo(), 3);
        Check.due("17 the latest one", Told.state(x), second);
        Check.due("17 undo()", x.undo(), 2);
        Check.due("17 the one before it", Told.state(x), first);
    }

    private static void actsBehindUndo() {
        Replay x = Plants.small();
        x.pass(1);
        x.pass(2);
        x.undo();
        x.undo();
        Acts.done("17 an act behind undo()", x, p -> p.pass(4), 0);
        Acts.done("17 one more", x, p -> p.pass(8), 0);
        Acts.done("17 the fifth one then", x, p -> p.pass(16), 0);
        int[] hours = {12, 4, 0, 0};
        for (int i = 0; i < 4; i++) {
            Check.due("17 undo()", x.undo(), 3 - i);
            Check.due("17 the hour", x.count(0), hours[i]);
        }
        Check.due("17 the crew that was added last is gone", x.count(3), 1);
        Acts.refused("17 no more", x, p -> p.undo(), NONE);
    }

    private static void undoIsNoAct() {
        Replay x = new Replay();
        x.pass(1);
        x.pass(1);
        Check.due("17 undo()", x.undo(), 1);
        Check.due("17 it is not recorded", x.count(15), 1);
        Check.due("17 undo() does not undo it", x.undo(), 0);
        Check.due("17 the hour", x.count(0), 0);
    }

    /** "and returns no error and not NONE": what does so is not recorded. */
    private static void whatIsRefusedIsNotRecorded() {
        List<ToIntFunction<TagWindows>> wrong = List.of(
                p -> p.addAsset(0, 1), p -> p.addAsset(1, 1), p -> p.link(0, 8, true),
                p -> p.link(0, 0, true), p -> p.link(0, 1, false), p -> p.bar(0, 5, true),
                p -> p.bar(0, 0, false), p -> p.addCrew(0, 0), p -> p.addTask(8, 0, 1, 0, 1, 101),
                p -> p.addTask(0, 0, 1, 0, 1, 100), p -> p.run(8), p -> p.run(1), p -> p.run(6),
                p -> p.stop(8), p -> p.stop(0), p -> p.hang(0, 3), p -> p.hang(1, 0),
                p -> p.begin(7), p -> p.begin(0), p -> p.lift(1, 3), p -> p.lift(1, 1),
                p -> p.cancel(7), p -> p.cancel(1), p -> p.pass(0), p -> p.pass(49));
        int[] want = {-2, -3, -1, -2, -5, -2, -5, -2, -1, -2, -1, -4, -5, -1, -5, -1, -4, -1, -4, -1, -4,
            -1, -4, -2, -2};
        for (int states = 0; states <= 4; states++) {
            Replay x = busyPlant(states);
            for (int i = 0; i < want.length; i++) {
                Acts.refused("17 the refused call " + i + " behind " + states, x, wrong.get(i), want[i]);
            }
            x.type(';');
            Acts.refused("17 perform() of a fault behind " + states, x, p -> p.perform(), -108);
            x.type('b');
            x.type('5');
            Acts.refused("17 perform() of an error behind " + states, x, p -> p.perform(), -4);
        }
    }

    private static void whatIsToldIsNotRecorded() {
        Replay x = Plants.allStates();
        int[] assets = {-1, 0, 1, 7, 8};
        for (int a : assets) {
            for (int w = -1; w <= 8; w++) {
                int what = w;
                unchanged(x, "real", p -> (int) p.real(a, what));
                unchanged(x, "healthIn", p -> (int) p.healthIn(a, what));
                unchanged(x, "hoursTo", p -> p.hoursTo(a, what));
                unchanged(x, "asset", p -> p.asset(a, what));
                unchanged(x, "tagAt", p -> p.tagAt(a, what));
                unchanged(x, "crew", p -> p.crew(a, what));
                unchanged(x, "task", p -> p.task(a, what + 4));
                unchanged(x, "crewFor", p -> p.crewFor(a));
                unchanged(x, "count", p -> p.count(what * 2));
            }
        }
    }

    private static void unchanged(Replay x, String call, ToIntFunction<TagWindows> f) {
        Check.due("17 " + call + " changes nothing", x.and(f).whole(), x.whole());
    }

    /** keep() is not described as an act. */
    private static void keepIsNoAct() {
        Replay x = Plants.small();
        String state = Told.state(x);
        String undone = Told.back(x, 1);
        x.keep();
        Check.due("18 keep() is not recorded", x.count(15), 4);
        Check.due("18 keep() leaves the state", Told.state(x), state);
        Check.due("18 keep() leaves the history", Told.back(x, 1), undone);
        Replay y = new Replay();
        y.keep();
        Acts.refused("18 nothing to undo behind keep()", y, p -> p.undo(), NONE);
    }

    /** "Returns the hour": 0 at first, at most 2000. */
    private static void keepTellsTheHour() {
        int[] hours = {0, 1, 1999, 2000};
        for (int hour : hours) {
            Replay x = Plants.smallAt(hour);
            Check.due("18 keep() at " + hour, x.keep(), hour);
            Acts.act("19 restore() at " + hour, x, p -> p.restore(), hour);
        }
        Check.due("18 keep() of a new one", new Replay().keep(), 0);
    }

    /** "Takes a snapshot of the state, in place of the one that was." */
    private static void keepInPlaceOfTheOneThatWas() {
        Replay x = Plants.small();
        x.keep();
        x.pass(5);
        x.run(1);
        String second = Told.state(x);
        Check.due("18 keep() the second time", x.keep(), 5);
        x.pass(7);
        Acts.done("19 restore()", x, p -> p.restore(), 5);
        Check.due("19 the second one", Told.state(x), second);
    }

    /** "NONE if there is no snapshot". */
    private static void restoreOfAnEmptySnapshot() {
        Acts.refused("19 restore() of a new one", new Replay(), p -> p.restore(), NONE);
        Replay x = Plants.allStates();
        Acts.refused("19 restore() without keep()", x, p -> p.restore(), NONE);
        x.undo();
        Acts.refused("19 restore() behind undo()", x, p -> p.restore(), NONE);
    }

    /** A snapshot of a plant without assets is one, too. */
    private static void restoreOfASnapshotOfNothing() {
        Replay x = new Replay();
        String empty = Told.state(x);
        x.keep();
        Acts.act("19 restore() at once", x, p -> p.restore(), 0);
        x.addAsset(1, 1);
        x.addCrew(1, 1);
        x.addTask(0, 0, 1, 0, 1, 0);
        x.bar(1, 1, true);
        x.pass(9);
        Acts.done("19 restore()", x, p -> p.restore(), 0);
        Check.due("19 there is nothing then", Told.state(x), empty);
    }

    /** "This is an act": undo() takes it back. */
    private static void restoreIsAnAct() {
        Replay x = Plants.small();
        x.keep();
        x.pass(9);
        x.run(0);
        String was = Told.state(x);
        Acts.done("19 restore()", x, p -> p.restore(), 0);
        Check.due("17 undo() of it", x.undo(), 3);
        Check.due("17 the state", Told.state(x), was);
    }

    /** "Restores the state of the snapshot, which stays." */
    private static void restoreLeavesTheSnapshot() {
        Replay x = Plants.small();
        x.keep();
        String kept = Told.state(x);
        for (int i = 0; i < 6; i++) {
            x.pass(i + 1);
            x.run(i % 2);
            x.link(0, 1, true);
            x.bar(0, i % 5, true);
            Acts.done("19 restore() once more", x, p -> p.restore(), 0);
            Check.due("19 the state kept", Told.state(x), kept);
        }
    }

    /** Restoring is an act though nothing is other than before. */
    private static void restoreToTheSameState() {
        Replay x = new Replay();
        x.keep();
        Acts.done("19 restore() to the same", x, p -> p.restore(), 0);
        Acts.told("17 it is recorded", x, p -> p.count(15), 1);
        Check.due("17 undo() of it", x.undo(), 0);
    }

    /** "A state is everything but the text, the history and the snapshot." */
    private static void undoLeavesTheSnapshot() {
        Replay x = new Replay();
        x.addAsset(1, 1);
        x.pass(3);
        String kept = Told.state(x);
        x.keep();
        x.undo();
        x.undo();
        Acts.told("17 no asset is left", x, p -> p.count(1), 0);
        Acts.done("19 restore() of what was undone", x, p -> p.restore(), 3);
        Check.due("19 the state kept", Told.state(x), kept);
        x.undo();
        Acts.act("19 the snapshot is there when restore() is undone", x, p -> p.restore(), 3);
    }

    private static void restoreLeavesTextAndHistory() {
        Replay x = Plants.small();
        x.keep();
        x.clearText();
        Acts.type(x, "p1;p2");
        x.pass(1);
        x.pass(1);
        Acts.done("19 restore()", x, p -> p.restore(), 0);
        Acts.told("19 the text stays", x, p -> p.count(16), 5);
        Acts.told("19 the history stays", x, p -> p.count(15), 4);
        Acts.act("19 the orders stay", x, p -> p.perform(), 2);
    }

    /** All that a state is made of comes back by undo() and by restore(). */
    private static void theWholeStateComesBack() {
        Replay x = Plants.allStates();
        x.link(1, 7, true);
        x.bar(2, 4, true);
        x.run(7);
        x.keep();
        String kept = Told.state(x);
        Acts.type(x, "s7;p48;r5;l1c0;l3c0;p48");
        Check.due("16 perform()", x.perform(), 6);
        x.link(1, 7, false);
        x.bar(2, 4, false);
        Check.due("the state is another", Told.state(x).equals(kept) ? 1 : 0, 0);
        Replay undone = x.and(p -> p.undo()).and(p -> p.undo()).and(p -> p.undo());
        Check.due("17 undo() brings all back", Told.state(undone), kept);
        Replay restored = x.and(p -> p.restore());
        Check.due("19 restore() brings all back", Told.state(restored), kept);
        undone.pass(48);
        restored.pass(48);
        Check.due("the next hours are the same", Told.state(undone), Told.state(restored));
    }

    /** "An object is used for at most 512 calls": the last of them is as good as the first. */
    private static void fiveHundredAndTwelveCalls() {
        TagWindows x = new TagWindows();
        x.addAsset(1, 1);
        int calls = 1;
        while (calls < 510) {
            Check.due("call " + calls, calls % 2 == 1 ? x.run(0) : x.stop(0), calls % 2);
            calls++;
        }
        Check.due("the 511th call", x.count(15), 4);
        Check.due("the 512th call", x.undo(), 3);
    }
}
