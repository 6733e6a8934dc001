/**
 * Promises 9 to 12, edge by edge: each sentence of the document that names a boundary case has a
 * test of its own, which quotes it.
 */
public final class WorkEdgesTest {
    private static final int UNKNOWN = TagWindows.UNKNOWN;
    private static final int NOT_POSSIBLE = TagWindows.NOT_POSSIBLE;
    private static final int NONE = TagWindows.NONE;

    public static void main(String[] args) {
        hangOfUnknownTasks();
        hangByUnknownCrews();
        hangUnknownComesAheadOfNotPossible();
        hangOnlyWhatWaits();
        hangWhereTheAssetRuns();
        hangNeedsTheSkill();
        hangNeedsSoManyPeople();
        hangNeedsPeopleThatAreNotBusy();
        busyPeopleInEachState();
        hangTheFirstTagAndTheLast();
        hangAheadOfTheWindow();
        beginOfUnknownTasks();
        beginOnlyWhatHangs();
        beginAtTheFirstHourOfItsWindow();
        beginAtTheLastHourOfItsWindow();
        beginBehindASlip();
        beginOnTheSameAndOnALinkedAsset();
        beginBarredByWhatIsInWorkAlone();
        beginReturnsTheHour();
        reasonsInTheirOrder();
        liftOfUnknownTasks();
        liftByUnknownCrews();
        liftUnknownComesAheadOfNotPossible();
        liftOnlyInTheStatesOneAndThree();
        liftByTheCrewThatHungIt();
        liftTheUppermostAlone();
        liftInReverseOrder();
        liftedWaitsAgainOrIsDone();
        cancelOfUnknownTasks();
        cancelOnlyWhatWaits();
        cancelReturnsTheSlips();
        Check.end();
    }

    /** The small plant with a task of one hour for one person with the skill 1 on each asset. */
    private static Replay twoTasks() {
        Replay x = Plants.small();
        x.addTask(0, 1, 1, 0, 1, 0);
        x.addTask(1, 1, 1, 0, 1, 0);
        return x;
    }

    private static Replay fullWithThreeHung() {
        Replay x = Plants.full();
        x.hang(0, 0);
        x.hang(23, 4);
        x.hang(8, 4);
        return x;
    }

    private static void hangOfUnknownTasks() {
        Acts.range("9 hang(v, 0)", twoTasks(), (p, v) -> p.hang(v, 0), 0, 1, 1, UNKNOWN);
        Acts.range("9 hang(v, 0) of 24", Plants.full(), (p, v) -> p.hang(v, 0), 0, 23, 1, UNKNOWN);
        Acts.refused("9 hang of none", Plants.small(), p -> p.hang(0, 0), UNKNOWN);
    }

    /** "UNKNOWN (task or crew)". */
    private static void hangByUnknownCrews() {
        Acts.range("9 hang(0, v)", twoTasks(), (p, v) -> p.hang(0, v), 0, 1, 1, UNKNOWN);
        Acts.range("9 hang(0, v) of 5", Plants.full(), (p, v) -> p.hang(0, v), 0, 4, 1, UNKNOWN);
        Replay x = new Replay();
        x.addAsset(1, 1);
        x.addTask(0, 0, 1, 0, 1, 0);
        Acts.refused("9 hang without crews", x, p -> p.hang(0, 0), UNKNOWN);
    }

    private static void hangUnknownComesAheadOfNotPossible() {
        for (int state = 0; state <= 6; state++) {
            int task = state;
            Acts.refused("9 no such crew, state " + task, Plants.allStates(), p -> p.hang(task, 3), UNKNOWN);
        }
        Replay x = twoTasks();
        x.run(0);
        Acts.refused("9 no such crew, its asset runs", x, p -> p.hang(0, 2), UNKNOWN);
        Acts.refused("9 no such task, nor crew", x, p -> p.hang(2, 2), UNKNOWN);
    }

    /** "NOT_POSSIBLE if the task does not wait". */
    private static void hangOnlyWhatWaits() {
        Acts.act("9 hang, state 0", Plants.allStates(), p -> p.hang(0, 2), 1);
        for (int state = 1; state <= 6; state++) {
            int task = state;
            for (int c = 0; c <= 2; c++) {
                int crew = c;
                Acts.refused("9 hang, state " + task + ", crew " + crew, Plants.allStates(),
                        p -> p.hang(task, crew), NOT_POSSIBLE);
            }
        }
    }

    /** "NOT_POSSIBLE if .. its asset runs". */
    private static void hangWhereTheAssetRuns() {
        Replay x = twoTasks();
        x.run(0);
        Acts.refused("9 its asset runs", x, p -> p.hang(0, 0), NOT_POSSIBLE);
        Acts.act("9 another asset runs", x, p -> p.hang(1, 0), 1);
        x.stop(0);
        Acts.act("9 its asset stands again", x, p -> p.hang(0, 0), 1);
    }

    /** "NOT_POSSIBLE if .. the crew has not its skill": each skill and each set of skills. */
    private static void hangNeedsTheSkill() {
        for (int skill = 0; skill <= 3; skill++) {
            int bit = 1 << skill;
            for (int skills = 0; skills <= 15; skills++) {
                Replay x = new Replay();
                x.addAsset(1, 1);
                x.addCrew(1, skills);
                x.addTask(0, skill, 1, 0, 1, 0);
                String call = "9 the skill " + skill + " of " + skills;
                if ((skills & bit) == bit) {
                    Acts.act(call, x, p -> p.hang(0, 0), 1);
                } else {
                    Acts.refused(call, x, p -> p.hang(0, 0), NOT_POSSIBLE);
                }
            }
        }
    }

    /** "NOT_POSSIBLE if .. or not so many people": just as many are enough. */
    private static void hangNeedsSoManyPeople() {
        for (int people = 1; people <= 6; people++) {
            for (int needed = 1; needed <= 6; needed++) {
                Replay x = new Replay();
                x.addAsset(1, 1);
                x.addCrew(people, 1);
                x.addTask(0, 0, needed, 0, 1, 0);
                String call = "9 " + needed + " of " + people + " people";
                if (needed <= people) {
                    Acts.act(call, x, p -> p.hang(0, 0), 1);
                } else {
                    Acts.refused(call, x, p -> p.hang(0, 0), NOT_POSSIBLE);
                }
            }
        }
    }

    /** "not so many people that are not busy": those of other tasks of this crew alone are. */
    private static void hangNeedsPeopleThatAreNotBusy() {
        Replay x = Plants.small();
        x.addTask(0, 1, 4, 0, 1, 0);
        x.addTask(1, 1, 3, 0, 1, 0);
        x.addTask(1, 1, 2, 0, 1, 0);
        x.hang(0, 0);
        Acts.refused("9 three of two that are left", x, p -> p.hang(1, 0), NOT_POSSIBLE);
        Acts.act("9 two of two that are left", x, p -> p.hang(2, 0), 1);
        Acts.act("9 two of the other crew", x, p -> p.hang(2, 1), 1);
        x.hang(2, 1);
        Acts.refused("9 two others of the other crew", x, p -> p.hang(1, 1), NOT_POSSIBLE);
        x.lift(0, 0);
        Acts.act("9 three when the four are free", x, p -> p.hang(1, 0), 2);
    }

    /** "People of a crew are busy for each of its tasks in the states 1 to 3". */
    private static void busyPeopleInEachState() {
        Replay x = Plants.allStates();
        Acts.told("9 busy for 1 and 3", x, p -> p.crew(0, 2), 2 + 4);
        Acts.told("9 busy for 2", x, p -> p.crew(1, 2), 3);
        Acts.told("9 not busy for 4", x, p -> p.crew(2, 2), 0);
        x.addTask(7, 0, 6, 0, 1, 200);
        x.addTask(7, 0, 4, 0, 1, 200);
        x.addTask(7, 0, 3, 0, 1, 200);
        x.addTask(7, 0, 1, 0, 1, 200);
        Acts.refused("9 one beside 1 and 3", x, p -> p.hang(10, 0), NOT_POSSIBLE);
        Acts.refused("9 four beside 2", x, p -> p.hang(8, 1), NOT_POSSIBLE);
        Acts.act("9 three beside 2", x, p -> p.hang(9, 1), 1);
        Acts.act("9 all six, as 4 is done", x, p -> p.hang(7, 2), 1);
        x.lift(3, 0);
        Acts.act("9 four when 3 is lifted", x, p -> p.hang(8, 0), 1);
        x.lift(1, 0);
        Acts.act("9 all six when 1 is lifted, too", x, p -> p.hang(7, 0), 1);
    }

    /** "Returns how many tags hang at its asset then": from 1 to 24. */
    private static void hangTheFirstTagAndTheLast() {
        Replay x = new Replay();
        x.addAsset(1, 1);
        x.addAsset(1, 1);
        for (int i = 0; i < 5; i++) {
            x.addCrew(6, 15);
        }
        for (int i = 0; i < 24; i++) {
            x.addTask(1, i % 4, 1, 0, 1, 0);
        }
        for (int i = 0; i < 24; i++) {
            int task = 23 - i;
            Acts.done("9 the tag " + (i + 1), x, p -> p.hang(task, task / 6), i + 1);
        }
        Acts.told("9 no tag at the other asset", x, p -> p.asset(0, 1), 0);
    }

    private static void hangAheadOfTheWindow() {
        Replay x = Plants.small();
        x.addTask(0, 1, 1, 0, 1, 2000);
        Acts.act("9 hang long ahead of its window", x, p -> p.hang(0, 0), 1);
    }

    private static void beginOfUnknownTasks() {
        Replay x = twoTasks();
        x.hang(0, 0);
        x.hang(1, 0);
        Acts.range("10 begin", x, (p, v) -> p.begin(v), 0, 1, 1, UNKNOWN);
        Acts.refused("10 begin of none", Plants.small(), p -> p.begin(0), UNKNOWN);
        Acts.outside("10 begin of 24", Plants.full(), (p, v) -> p.begin(v), 0, 23, UNKNOWN);
        Replay y = fullWithThreeHung();
        Plants.passTo(y, 100);
        Acts.act("10 begin the first of 24", y, p -> p.begin(0), 101);
        Acts.act("10 begin the last of 24", y, p -> p.begin(23), 124);
    }

    /** "1 it is not in the state 1". */
    private static void beginOnlyWhatHangs() {
        for (int state = 0; state <= 6; state++) {
            int task = state;
            if (state == 1) {
                Acts.act("10 begin, state 1", Plants.allStates(), p -> p.begin(task), 102);
            } else {
                Acts.refused("10 begin, state " + state, Plants.allStates(), p -> p.begin(task), NOT_POSSIBLE);
            }
        }
    }

    /** "2 the hour is less than the beginning of its window": at the beginning it is not. */
    private static void beginAtTheFirstHourOfItsWindow() {
        int[] froms = {1, 5, 2000};
        for (int from : froms) {
            Replay x = Plants.small();
            x.addTask(0, 1, 1, 0, 3, from);
            x.hang(0, 0);
            Plants.passTo(x, from - 1);
            Acts.told("10 the reason an hour ahead of " + from, x, p -> p.task(0, 11), 2);
            Acts.refused("10 an hour ahead of " + from, x, p -> p.begin(0), NOT_POSSIBLE);
            x.pass(1);
            Acts.told("10 no reason at " + from, x, p -> p.task(0, 11), 0);
            Acts.act("10 begin at " + from, x, p -> p.begin(0), from + 3);
        }
        Replay x = twoTasks();
        x.hang(0, 0);
        Acts.act("10 begin at the hour 0", x, p -> p.begin(0), 1);
    }

    /** "3 hour + hours is greater than the end of its window": just at the end it is not. */
    private static void beginAtTheLastHourOfItsWindow() {
        int[] hours = {1, 17, 48};
        for (int h : hours) {
            Replay x = Plants.small();
            x.addTask(0, 1, 1, 0, h, 0);
            x.hang(0, 0);
            Plants.passTo(x, h + 6);
            Acts.told("10 no reason at " + (h + 6), x, p -> p.task(0, 11), 0);
            Acts.told("10 no slip at " + (h + 6), x, p -> p.task(0, 10), 0);
            Acts.act("10 begin at the last hour, " + (h + 6), x, p -> p.begin(0), 2 * h + 6);
        }
    }

    /** An hour later it has slipped; the window of 16 hours is ahead of it then, that of 17 is not. */
    private static void beginBehindASlip() {
        int[][] cases = {{1, 2}, {16, 2}, {17, 0}, {48, 0}};
        for (int[] c : cases) {
            int hours = c[0];
            Replay x = Plants.small();
            x.addTask(0, 1, 1, 0, hours, 0);
            x.hang(0, 0);
            Plants.passTo(x, hours + 7);
            Acts.told("10 it has slipped", x, p -> p.task(0, 10), 1);
            Acts.told("10 the reason behind a slip of " + hours, x, p -> p.task(0, 11), c[1]);
            if (c[1] == 0) {
                Acts.act("10 begin behind a slip", x, p -> p.begin(0), 2 * hours + 7);
            } else {
                Acts.refused("10 begin behind a slip", x, p -> p.begin(0), NOT_POSSIBLE);
            }
        }
    }

    /** "on the same asset or on a linked one, if their kinds bar one another". */
    private static void beginOnTheSameAndOnALinkedAsset() {
        for (int i = 0; i < 8; i++) {
            boolean same = (i & 1) != 0;
            boolean linked = (i & 2) != 0;
            boolean bar = (i & 4) != 0;
            Replay x = Plants.small();
            x.addAsset(1, 1);
            x.addTask(1, 1, 1, 0, 9, 0);
            x.addTask(same ? 1 : 0, 1, 1, 4, 9, 0);
            x.link(0, linked ? 1 : 2, true);
            x.link(1, 2, true);
            x.bar(0, bar ? 4 : 0, true);
            x.bar(4, 4, true);
            x.hang(0, 0);
            x.hang(1, 1);
            x.begin(0);
            String call = "10 begin, same " + same + ", linked " + linked + ", bar " + bar;
            if ((same || linked) && bar) {
                Acts.told("10 the reason", x, p -> p.task(1, 11), 4);
                Acts.refused(call, x, p -> p.begin(1), NOT_POSSIBLE);
            } else {
                Acts.told("10 no reason", x, p -> p.task(1, 11), 0);
                Acts.act(call, x, p -> p.begin(1), 9);
            }
        }
    }

    /** "barred by another one that is in work": not by what hangs, is finished, and so on. */
    private static void beginBarredByWhatIsInWorkAlone() {
        for (int state = 0; state <= 6; state++) {
            int other = state;
            Replay x = Plants.allStates();
            x.addTask(7, 0, 1, 3, 1, 101);
            x.link(7, other, true);
            for (int kind = 0; kind <= 4; kind++) {
                x.bar(kind, 3, true);
            }
            x.hang(7, 2);
            if (state == 2) {
                Acts.refused("10 begin beside one in the state 2", x, p -> p.begin(7), NOT_POSSIBLE);
            } else {
                Acts.act("10 begin beside one in the state " + state, x, p -> p.begin(7), 102);
            }
        }
    }

    /** "Returns the hour at which it is finished if all hours pass", beyond 2000, too. */
    private static void beginReturnsTheHour() {
        int[][] cases = {{0, 1, 1}, {0, 48, 48}, {7, 2, 9}, {2000, 48, 2048}};
        for (int[] c : cases) {
            Replay x = Plants.small();
            x.addTask(0, 1, 1, 0, c[1], c[0]);
            x.hang(0, 0);
            Plants.passTo(x, c[0]);
            Acts.act("10 begin " + c[1] + " hours at " + c[0], x, p -> p.begin(0), c[2]);
        }
    }

    /** "asked in this order: 1 .. 2 .. 3 .. 4 .." (3 is never so, as the task slips then). */
    private static void reasonsInTheirOrder() {
        Replay x = Plants.small();
        x.bar(0, 0, true);
        x.addTask(0, 1, 1, 0, 20, 0);
        x.addTask(0, 1, 1, 0, 1, 3);
        x.hang(0, 0);
        x.begin(0);
        Acts.told("10 1 ahead of 2 and 4", x, p -> p.task(1, 11), 1);
        x.hang(1, 0);
        Acts.told("10 2 ahead of 4", x, p -> p.task(1, 11), 2);
        x.pass(2);
        Acts.told("10 2 ahead of 4 still", x, p -> p.task(1, 11), 2);
        x.pass(1);
        Acts.told("10 4 then", x, p -> p.task(1, 11), 4);
        Acts.refused("10 begin what is barred", x, p -> p.begin(1), NOT_POSSIBLE);
        x.bar(0, 0, false);
        Acts.told("10 none then", x, p -> p.task(1, 11), 0);
        Acts.act("10 begin what is not barred any more", x, p -> p.begin(1), 4);
    }

    private static void liftOfUnknownTasks() {
        Replay x = twoTasks();
        x.hang(0, 0);
        x.hang(1, 0);
        Acts.range("11 lift(v, 0)", x, (p, v) -> p.lift(v, 0), 0, 1, 0, UNKNOWN);
        Acts.refused("11 lift of none", Plants.small(), p -> p.lift(0, 0), UNKNOWN);
        Replay y = fullWithThreeHung();
        Acts.outside("11 lift(v, 0) of 24", y, (p, v) -> p.lift(v, 0), 0, 23, UNKNOWN);
        Acts.act("11 lift the last of 24 by the last crew", y, p -> p.lift(23, 4), 0);
    }

    /** "UNKNOWN (task or crew)". */
    private static void liftByUnknownCrews() {
        Replay x = twoTasks();
        x.hang(0, 0);
        Acts.outside("11 lift(0, v)", x, (p, v) -> p.lift(0, v), 0, 1, UNKNOWN);
        Acts.outside("11 lift(0, v) of 5", fullWithThreeHung(), (p, v) -> p.lift(0, v), 0, 4, UNKNOWN);
    }

    private static void liftUnknownComesAheadOfNotPossible() {
        for (int state = 0; state <= 6; state++) {
            int task = state;
            Acts.refused("11 no such crew, state " + task, Plants.allStates(), p -> p.lift(task, 3), UNKNOWN);
            Acts.refused("11 no crew at all, NONE", Plants.allStates(), p -> p.lift(task, NONE), UNKNOWN);
        }
    }

    /** "NOT_POSSIBLE if the task is not in the state 1 or 3". */
    private static void liftOnlyInTheStatesOneAndThree() {
        for (int state = 0; state <= 6; state++) {
            int task = state;
            if (state == 1 || state == 3) {
                Acts.act("11 lift, state " + state, Plants.allStates(), p -> p.lift(task, 0), 0);
                continue;
            }
            for (int c = 0; c <= 2; c++) {
                int crew = c;
                Acts.refused("11 lift, state " + state, Plants.allStates(), p -> p.lift(task, crew),
                        NOT_POSSIBLE);
            }
        }
    }

    /** "NOT_POSSIBLE if .. the crew is not the one that hung the tag". */
    private static void liftByTheCrewThatHungIt() {
        int[][] wrong = {{1, 1}, {1, 2}, {3, 1}, {3, 2}};
        for (int[] w : wrong) {
            Acts.refused("11 lift " + w[0] + " by the crew " + w[1], Plants.allStates(),
                    p -> p.lift(w[0], w[1]), NOT_POSSIBLE);
        }
        Replay x = twoTasks();
        x.hang(0, 0);
        x.lift(0, 0);
        x.hang(0, 1);
        Acts.refused("11 lift by the crew that hung it once", x, p -> p.lift(0, 0), NOT_POSSIBLE);
        Acts.act("11 lift by the crew that hung it", x, p -> p.lift(0, 1), 0);
    }

    /** "NOT_POSSIBLE if .. another tag hangs over it", in whatever state that is. */
    private static void liftTheUppermostAlone() {
        Replay x = Plants.small();
        x.addTask(0, 1, 1, 0, 1, 0);
        x.addTask(0, 1, 1, 0, 1, 0);
        x.addTask(1, 1, 1, 0, 1, 0);
        x.hang(1, 0);
        x.hang(0, 0);
        x.hang(2, 0);
        Acts.refused("11 one hangs over it", x, p -> p.lift(1, 0), NOT_POSSIBLE);
        Acts.act("11 over it hangs none, but at another asset", x, p -> p.lift(0, 0), 1);
        x.begin(0);
        Acts.refused("11 one in work hangs over it", x, p -> p.lift(1, 0), NOT_POSSIBLE);
        x.begin(1);
        x.pass(1);
        Acts.refused("11 a finished one hangs over the finished one", x, p -> p.lift(1, 0), NOT_POSSIBLE);
        x.lift(0, 0);
        Acts.act("11 over the finished one hangs none", x, p -> p.lift(1, 0), 0);
    }

    /** "lifted in reverse order"; "Returns how many tags hang at its asset then": down to 0. */
    private static void liftInReverseOrder() {
        Replay x = new Replay();
        x.addAsset(1, 1);
        for (int i = 0; i < 4; i++) {
            x.addCrew(6, 15);
        }
        for (int i = 0; i < 24; i++) {
            x.addTask(0, i % 4, 1, 0, 1, 0);
        }
        for (int i = 0; i < 24; i++) {
            x.hang(i * 7 % 24, i / 6);
        }
        for (int i = 23; i >= 0; i--) {
            int task = i * 7 % 24;
            int crew = i / 6;
            if (i > 0) {
                int under = (i - 1) * 7 % 24;
                int itsCrew = (i - 1) / 6;
                Acts.refused("11 lift the one under it", x, p -> p.lift(under, itsCrew), NOT_POSSIBLE);
            }
            Acts.done("11 lift the tag " + i, x, p -> p.lift(task, crew), i);
        }
        Acts.act("11 run when all are lifted", x, p -> p.run(0), 1);
    }

    /** "one that is finished is done then, one that is not in work waits again". */
    private static void liftedWaitsAgainOrIsDone() {
        Replay x = Plants.allStates();
        x.lift(1, 0);
        Acts.told("11 it waits again", x, p -> p.task(1, 1), 0);
        Acts.told("11 no crew has hung it", x, p -> p.task(1, 8), NONE);
        Acts.act("11 it can be hung again", x, p -> p.hang(1, 2), 1);
        x.lift(3, 0);
        Acts.told("11 it is done", x, p -> p.task(3, 1), 4);
        Acts.told("11 its crew stays told", x, p -> p.task(3, 8), 0);
        Acts.refused("11 lift it again", x, p -> p.lift(3, 0), NOT_POSSIBLE);
    }

    private static void cancelOfUnknownTasks() {
        Acts.range("12 cancel", twoTasks(), (p, v) -> p.cancel(v), 0, 1, 0, UNKNOWN);
        Acts.range("12 cancel of 24", Plants.full(), (p, v) -> p.cancel(v), 0, 23, 0, UNKNOWN);
        Acts.refused("12 cancel of none", Plants.small(), p -> p.cancel(0), UNKNOWN);
    }

    /** "NOT_POSSIBLE if it does not wait". */
    private static void cancelOnlyWhatWaits() {
        Acts.act("12 cancel, state 0", Plants.allStates(), p -> p.cancel(0), 0);
        for (int state = 1; state <= 6; state++) {
            int task = state;
            Acts.refused("12 cancel, state " + state, Plants.allStates(), p -> p.cancel(task), NOT_POSSIBLE);
        }
        Replay x = Plants.allStates();
        x.lift(1, 0);
        Acts.act("12 cancel what waits again", x, p -> p.cancel(1), 0);
        x.cancel(1);
        Acts.told("12 the state", x, p -> p.task(1, 1), 6);
        Acts.refused("12 cancel again", x, p -> p.cancel(1), NOT_POSSIBLE);
    }

    /** "Returns how often it has slipped": from 0 to 3 while it waits, more when it had hung. */
    private static void cancelReturnsTheSlips() {
        for (int slips = 0; slips <= 3; slips++) {
            Replay x = twoTasks();
            Plants.passTo(x, 7 + 24 * slips);
            Acts.act("12 cancel behind slips", x, p -> p.cancel(0), slips);
        }
        Replay x = twoTasks();
        x.hang(0, 0);
        Plants.passTo(x, 7 + 24 * 5);
        x.lift(0, 0);
        Acts.act("12 cancel behind five slips", x, p -> p.cancel(0), 5);
    }
}
