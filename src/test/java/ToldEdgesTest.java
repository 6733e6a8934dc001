/**
 * Promises 20 to 28, edge by edge: each sentence of the document that names a boundary case has a
 * test of its own, which quotes it.
 */
public final class ToldEdgesTest {
    private static final int UNKNOWN = TagWindows.UNKNOWN;
    private static final int BAD_VALUE = TagWindows.BAD_VALUE;
    private static final int NONE = TagWindows.NONE;
    private static final int[] FAR = {Integer.MIN_VALUE, -1, 8, Integer.MAX_VALUE};

    public static void main(String[] args) {
        realOfUnknownAssets();
        realOfWhatIsOutOfRange();
        healthInOfUnknownAssets();
        healthInNoHoursAndTwoHundred();
        healthInHoursOutOfRange();
        healthInIsAtLeast();
        healthInIfNothingElseHappened();
        hoursToOfUnknownAssets();
        hoursToPercentOutOfRange();
        hoursToUnknownComesAheadOfBadValue();
        hoursToZeroIfItIsNow();
        hoursToABoundThatIsMet();
        hoursToABoundThatIsDivided();
        hoursToTwoHundredAndOneMore();
        hoursToTheLeastHealth();
        assetOfUnknownAssets();
        assetWhatOutOfRange();
        assetRunsOrStands();
        assetTagsFromNoneToAll();
        assetTasksInEachState();
        assetHealthDropsWhatIsBehindThePoint();
        assetOutputDropsWhatIsBehindThePoint();
        tagAtOfUnknownAssets();
        tagAtNegativePlaces();
        tagAtEachPlace();
        crewOfUnknownCrews();
        crewWhatOutOfRange();
        crewTellsWhatItHas();
        crewTasksInEachState();
        taskOfUnknownTasks();
        taskWhatOutOfRange();
        taskCrewInEachState();
        taskHoursLeftInEachState();
        taskReasonInEachState();
        taskBarredWhateverItsState();
        taskBarredByTheLowest();
        taskBarredByAnotherAlone();
        crewForUnknownTasks();
        crewForInEachState();
        crewForTheLowest();
        crewForNoneOfThem();
        crewForWhereTheAssetRuns();
        countWhatOutOfRange();
        countOfAFullPlant();
        countOfEachState();
        countOfStatesAndCharacters();
        Check.end();
    }

    private static Replay withTasks(Replay x, int tasks) {
        for (int i = 0; i < tasks; i++) {
            x.addTask(0, 1, 1, 0, 1, 0);
        }
        return x;
    }

    private static void isNaN(String call, float got) {
        Check.dueFloat(call, got, Float.NaN);
    }

    /** "a NaN if there is no such asset". */
    private static void realOfUnknownAssets() {
        for (int what = 0; what <= 2; what++) {
            isNaN("20 real(0, " + what + ") of none", new Replay().real(0, what));
            isNaN("20 real(2, " + what + ") of two", Plants.small().real(2, what));
            for (int far : FAR) {
                isNaN("20 real(" + far + ", " + what + ")", Plants.full().real(far, what));
            }
        }
        Replay x = Plants.full();
        Check.dueFloat("20 real(0, 2) of 8", x.real(0, 2), 10 / 1000.0f);
        Check.dueFloat("20 real(7, 2) of 8", x.real(7, 2), 17 / 1000.0f);
        Check.dueFloat("20 real(7, 0) of 8", x.real(7, 0), 1.0f);
        Check.dueFloat("20 real(7, 1) of 8", x.real(7, 1), 0.0f);
    }

    /** "a NaN if .. what is out of range": 0 to 2. */
    private static void realOfWhatIsOutOfRange() {
        int[] wrong = {Integer.MIN_VALUE, -1, 3, Integer.MAX_VALUE};
        for (int what : wrong) {
            isNaN("20 real(0, " + what + ")", Plants.small().real(0, what));
            isNaN("20 real(2, " + what + ")", Plants.small().real(2, what));
        }
        Replay x = Plants.small();
        x.run(1);
        x.pass(1);
        Check.dueFloat("20 the least, its health", x.real(1, 0), 0.95f);
        Check.dueFloat("20 its output", x.real(1, 1), 20.0f);
        Check.dueFloat("20 the greatest, its wear", x.real(1, 2), 0.05f);
    }

    private static void healthInOfUnknownAssets() {
        isNaN("21 healthIn(0, 0) of none", new Replay().healthIn(0, 0));
        isNaN("21 healthIn(2, 0) of two", Plants.small().healthIn(2, 0));
        for (int far : FAR) {
            isNaN("21 healthIn(" + far + ", 1)", Plants.full().healthIn(far, 1));
        }
        Check.dueFloat("21 healthIn(7, 1) of 8", Plants.full().healthIn(7, 1), 1.0f - 17 / 1000.0f);
    }

    /** "hours: 0 to 200". */
    private static void healthInNoHoursAndTwoHundred() {
        int[] wears = {1, 3, 20, 200};
        for (int wear : wears) {
            Replay x = new Replay();
            x.addAsset(1, wear);
            float health = 1.0f;
            for (int hours = 0; hours <= 200; hours++) {
                Check.dueFloat("21 healthIn(0, " + hours + ") of wear " + wear, x.healthIn(0, hours), health);
                float worn = health - health * (wear / 1000.0f);
                health = worn < 0.01f ? 0.01f : worn;
            }
        }
    }

    private static void healthInHoursOutOfRange() {
        int[] wrong = {Integer.MIN_VALUE, -1, 201, Integer.MAX_VALUE};
        for (int hours : wrong) {
            isNaN("21 healthIn(0, " + hours + ")", Plants.small().healthIn(0, hours));
            isNaN("21 healthIn(2, " + hours + ")", Plants.small().healthIn(2, hours));
        }
    }

    /** "but at least 0.01f" holds for what is foretold, too. */
    private static void healthInIsAtLeast() {
        Replay x = new Replay();
        x.addAsset(1, 200);
        Check.dueFloat("21 the last hour ahead of the least", x.healthIn(0, 20) > 0.01f ? 1 : 0, 1);
        Check.dueFloat("21 the first hour at the least", x.healthIn(0, 21), 0.01f);
        Check.dueFloat("21 the next one", x.healthIn(0, 22), 0.01f);
    }

    /** "if it ran for some hours from now on, and nothing else happened to it": as it stands, too. */
    private static void healthInIfNothingElseHappened() {
        Replay x = withTasks(Plants.small(), 1);
        x.run(0);
        x.pass(4);
        x.stop(0);
        float worn = x.real(0, 0);
        float foretold = x.healthIn(0, 5);
        Check.dueFloat("21 now", x.healthIn(0, 0), worn);
        x.hang(0, 0);
        x.begin(0);
        Check.dueFloat("21 under a task in work", x.healthIn(0, 5), foretold);
        Replay y = Plants.small();
        y.run(0);
        y.pass(9);
        Check.dueFloat("21 as it comes when it runs", y.real(0, 0), foretold);
        Plants.passTo(y, 2000);
        Check.dueFloat("21 beyond the last hour, at the least", y.healthIn(0, 200), 0.01f);
        Check.dueFloat("21 beyond the last hour", y.healthIn(1, 14), Plants.small().healthIn(1, 14));
        Acts.told("22 beyond the last hour", y, p -> p.hoursTo(1, 50), 14);
    }

    private static void hoursToOfUnknownAssets() {
        Acts.told("22 hoursTo(0, 50) of none", new Replay(), p -> p.hoursTo(0, 50), UNKNOWN);
        Acts.outside("22 hoursTo(v, 50)", Plants.small(), (p, v) -> p.hoursTo(v, 50), 0, 1, UNKNOWN);
        Acts.outside("22 hoursTo(v, 50) of 8", Plants.full(), (p, v) -> p.hoursTo(v, 50), 0, 7, UNKNOWN);
        Acts.told("22 hoursTo(7, 99) of 8", Plants.full(), p -> p.hoursTo(7, 99), 1);
    }

    /** "percent: 1 to 100". */
    private static void hoursToPercentOutOfRange() {
        Replay x = Plants.small();
        Acts.outside("22 hoursTo(0, v)", x, (p, v) -> p.hoursTo(0, v), 1, 100, BAD_VALUE);
        Acts.told("22 hoursTo(0, 1)", x, p -> p.hoursTo(0, 1), NONE);
        Acts.told("22 hoursTo(0, 100)", x, p -> p.hoursTo(0, 100), 1);
    }

    private static void hoursToUnknownComesAheadOfBadValue() {
        Acts.outside("22 hoursTo(2, v)", Plants.small(), (p, v) -> p.hoursTo(2, v), 1, 100, UNKNOWN);
    }

    /** "0 if it is now". */
    private static void hoursToZeroIfItIsNow() {
        Replay x = Plants.small();
        x.run(0);
        x.pass(1);
        Acts.told("22 0.9f is less than 91", x, p -> p.hoursTo(0, 91), 0);
        Acts.told("22 0.9f is not less than 90", x, p -> p.hoursTo(0, 90), 1);
        Acts.told("22 0.9f is less than 100", x, p -> p.hoursTo(0, 100), 0);
    }

    /** "the fewest hours behind which its health is less than the bound": equal is not less. */
    private static void hoursToABoundThatIsMet() {
        int[][] met = {{10, 99}, {20, 98}, {30, 97}, {50, 95}, {70, 93}, {100, 90}, {130, 87}, {200, 80}};
        for (int[] m : met) {
            Replay x = new Replay();
            x.addAsset(1, m[0]);
            Check.dueFloat("22 the bound is met", x.healthIn(0, 1), m[1] / 100.0f);
            Acts.told("22 an hour later it is less than " + m[1], x, p -> p.hoursTo(0, m[1]), 2);
        }
        Replay x = new Replay();
        x.addAsset(1, 100);
        Acts.told("22 met behind two hours", x, p -> p.hoursTo(0, 81), 3);
        Acts.told("22 the whole health is met now", x, p -> p.hoursTo(0, 100), 1);
    }

    /** "the bound is percent / 100.0f": 91 * 0.01f would be a little less, just what is met here. */
    private static void hoursToABoundThatIsDivided() {
        Replay x = new Replay();
        x.addAsset(1, 90);
        Check.due("22 the health is less than 91 / 100.0f", x.healthIn(0, 1) < 91 / 100.0f ? 1 : 0, 1);
        Check.due("22 it is not less than 91 * 0.01f", x.healthIn(0, 1) < 91 * 0.01f ? 1 : 0, 0);
        Acts.told("22 less than 91", x, p -> p.hoursTo(0, 91), 1);
    }

    /** "NONE if it is not within 200 hours": the 200th is within. */
    private static void hoursToTwoHundredAndOneMore() {
        int[][] cases = {{3, 55, 199}, {5, 37, 199}, {4, 45, 200}, {11, 11, 200}, {16, 4, 200},
            {2, 67, NONE}, {6, 30, NONE}, {8, 20, NONE}};
        for (int[] c : cases) {
            Replay x = new Replay();
            x.addAsset(1, c[0]);
            Acts.told("22 wear " + c[0] + " to " + c[1], x, p -> p.hoursTo(0, c[1]), c[2]);
            x.run(0);
            x.pass(1);
            Acts.told("22 wear " + c[0] + " to " + c[1] + " an hour later", x, p -> p.hoursTo(0, c[1]),
                    c[2] == NONE ? 200 : c[2] - 1);
        }
    }

    /** The health is at least 0.01f, which is not less than 1 / 100.0f. */
    private static void hoursToTheLeastHealth() {
        Replay x = new Replay();
        x.addAsset(1, 200);
        Acts.told("22 never", x, p -> p.hoursTo(0, 1), NONE);
        Acts.told("22 less than 2", x, p -> p.hoursTo(0, 2), 18);
        x.run(0);
        x.pass(48);
        Acts.told("22 never, at the least", x, p -> p.hoursTo(0, 1), NONE);
        Acts.told("22 now, at the least", x, p -> p.hoursTo(0, 2), 0);
    }

    private static void assetOfUnknownAssets() {
        for (int w = -1; w <= 8; w++) {
            int what = w;
            Acts.told("23 asset(0, " + what + ") of none", new Replay(), p -> p.asset(0, what), UNKNOWN);
            Acts.outside("23 asset(v, " + what + ")", Plants.small(), (p, v) -> p.asset(v, what), 0, 1,
                    UNKNOWN);
            Acts.outside("23 asset(v, " + what + ") of 8", Plants.full(), (p, v) -> p.asset(v, what), 0, 7,
                    UNKNOWN);
        }
        Acts.told("23 the tasks of 7", Plants.full(), p -> p.asset(7, 4), 3);
    }

    /** "BAD_VALUE: Another argument is out of range": 0 to 7. */
    private static void assetWhatOutOfRange() {
        Acts.outside("23 asset(0, v)", Plants.small(), (p, v) -> p.asset(0, v), 0, 7, BAD_VALUE);
        Acts.told("23 the least", Plants.small(), p -> p.asset(0, 0), 0);
        Acts.told("23 the greatest", Plants.small(), p -> p.asset(0, 7), 0);
    }

    /** "0 for whether it runs (1, otherwise 0)". */
    private static void assetRunsOrStands() {
        Replay x = Plants.small();
        x.run(1);
        Acts.told("23 one that stands", x, p -> p.asset(0, 0), 0);
        Acts.told("23 one that runs", x, p -> p.asset(1, 0), 1);
        x.stop(1);
        Acts.told("23 one that was stopped", x, p -> p.asset(1, 0), 0);
    }

    /** "2 for the task of the uppermost one (NONE if none hangs)". */
    private static void assetTagsFromNoneToAll() {
        Replay x = withTasks(Plants.small(), 4);
        Acts.told("23 no tags", x, p -> p.asset(0, 1), 0);
        Acts.told("23 none is uppermost", x, p -> p.asset(0, 2), NONE);
        int[] order = {2, 0, 3, 1};
        for (int i = 0; i < 4; i++) {
            int tags = i + 1;
            x.hang(order[i], 0);
            int top = order[i];
            Acts.told("23 tags", x, p -> p.asset(0, 1), tags);
            Acts.told("23 the uppermost", x, p -> p.asset(0, 2), top);
            Acts.told("23 none is uppermost at the other", x, p -> p.asset(1, 2), NONE);
        }
        for (int i = 3; i >= 0; i--) {
            x.lift(order[i], 0);
            int top = i == 0 ? NONE : order[i - 1];
            int tags = i;
            Acts.told("23 tags left", x, p -> p.asset(0, 1), tags);
            Acts.told("23 the uppermost then", x, p -> p.asset(0, 2), top);
        }
    }

    /** "1 for the tags", "4 for its tasks in the states 0 to 3, 5 for its tasks that are done". */
    private static void assetTasksInEachState() {
        Replay x = Plants.allStates();
        int[] tags = {0, 1, 1, 1, 0, 0, 0, 0};
        int[] tops = {NONE, 1, 2, 3, NONE, NONE, NONE, NONE};
        int[] open = {1, 1, 1, 1, 0, 0, 0, 0};
        int[] done = {0, 0, 0, 0, 1, 0, 0, 0};
        for (int state = 0; state <= 7; state++) {
            int asset = state;
            Acts.told("23 tags, state " + state, x, p -> p.asset(asset, 1), tags[state]);
            Acts.told("23 the uppermost, state " + state, x, p -> p.asset(asset, 2), tops[state]);
            Acts.told("23 tasks in the states 0 to 3, " + state, x, p -> p.asset(asset, 4), open[state]);
            Acts.told("23 tasks that are done, " + state, x, p -> p.asset(asset, 5), done[state]);
        }
    }

    /** "6 for (int) (health * 1000.0f)": in floats the least health, 0.01f, is 10. */
    private static void assetHealthDropsWhatIsBehindThePoint() {
        Replay x = new Replay();
        x.addAsset(1, 200);
        x.addAsset(1, 1);
        Acts.told("23 the whole health", x, p -> p.asset(0, 6), 1000);
        x.run(0);
        x.run(1);
        for (int i = 1; i <= 48; i++) {
            x.pass(1);
            Check.due("23 (int) (health * 1000.0f)", x.asset(0, 6), (int) (x.real(0, 0) * 1000.0f));
            Check.due("23 (int) of wear 1", x.asset(1, 6), (int) (x.real(1, 0) * 1000.0f));
        }
        Acts.told("23 the least health", x, p -> p.asset(0, 6), 10);
        Acts.told("23 953.1 is 953", x, p -> p.asset(1, 6), 953);
    }

    /** "7 for (int) output, where (int) drops what is behind the point". */
    private static void assetOutputDropsWhatIsBehindThePoint() {
        Replay x = new Replay();
        x.addAsset(1, 1);
        x.addAsset(100, 1);
        Acts.told("23 no output", x, p -> p.asset(0, 7), 0);
        x.run(0);
        x.run(1);
        x.pass(2);
        Acts.told("23 1.999 is 1", x, p -> p.asset(0, 7), 1);
        Acts.told("23 199.9 is 199", x, p -> p.asset(1, 7), 199);
    }

    private static void tagAtOfUnknownAssets() {
        for (int w = -1; w <= 1; w++) {
            int place = w;
            Acts.told("24 tagAt(0, " + place + ") of none", new Replay(), p -> p.tagAt(0, place), UNKNOWN);
            Acts.outside("24 tagAt(v, " + place + ")", Plants.small(), (p, v) -> p.tagAt(v, place), 0, 1,
                    UNKNOWN);
            Acts.outside("24 tagAt(v, " + place + ") of 8", Plants.full(), (p, v) -> p.tagAt(v, place), 0,
                    7, UNKNOWN);
        }
    }

    /** "BAD_VALUE if place is negative", though no tag hangs. */
    private static void tagAtNegativePlaces() {
        int[] negative = {Integer.MIN_VALUE, Integer.MIN_VALUE + 1, -2, -1};
        for (int place : negative) {
            Acts.told("24 no tag, " + place, Plants.small(), p -> p.tagAt(0, place), BAD_VALUE);
            Acts.told("24 a tag, " + place, Plants.allStates(), p -> p.tagAt(1, place), BAD_VALUE);
        }
    }

    /** "from the uppermost one on, from 0"; "NONE if there are not so many". */
    private static void tagAtEachPlace() {
        Replay x = withTasks(Plants.small(), 6);
        int[] order = {5, 0, 3, 1, 4, 2};
        for (int hung = 0; hung <= 6; hung++) {
            for (int place = 0; place <= 7; place++) {
                int at = place;
                int want = place < hung ? order[hung - 1 - place] : NONE;
                Acts.told("24 place " + place + " of " + hung, x, p -> p.tagAt(0, at), want);
            }
            Acts.told("24 far below", x, p -> p.tagAt(0, Integer.MAX_VALUE), NONE);
            Acts.told("24 none at the other asset", x, p -> p.tagAt(1, 0), NONE);
            if (hung < 6) {
                x.hang(order[hung], 0);
            }
        }
    }

    private static void crewOfUnknownCrews() {
        for (int w = -1; w <= 5; w++) {
            int what = w;
            Acts.told("25 crew(0, " + what + ") of none", new Replay(), p -> p.crew(0, what), UNKNOWN);
            Acts.outside("25 crew(v, " + what + ")", Plants.small(), (p, v) -> p.crew(v, what), 0, 1, UNKNOWN);
            Acts.outside("25 crew(v, " + what + ") of 5", Plants.full(), (p, v) -> p.crew(v, what), 0, 4,
                    UNKNOWN);
        }
    }

    private static void crewWhatOutOfRange() {
        Acts.outside("25 crew(0, v)", Plants.small(), (p, v) -> p.crew(0, v), 0, 4, BAD_VALUE);
        Acts.told("25 the least", Plants.small(), p -> p.crew(0, 0), 6);
        Acts.told("25 the greatest", Plants.small(), p -> p.crew(0, 4), 0);
    }

    private static void crewTellsWhatItHas() {
        int[][] crews = {{1, 0}, {6, 15}, {1, 15}, {6, 0}, {3, 8}};
        Replay x = new Replay();
        for (int i = 0; i < 5; i++) {
            int c = i;
            x.addCrew(crews[i][0], crews[i][1]);
            Acts.told("25 the people", x, p -> p.crew(c, 0), crews[i][0]);
            Acts.told("25 the skills", x, p -> p.crew(c, 1), crews[i][1]);
        }
        Acts.told("25 the people of the first", x, p -> p.crew(0, 0), 1);
    }

    /** "2 for the people that are busy, 3 for the tasks for which they are, 4 for .. done". */
    private static void crewTasksInEachState() {
        Replay x = Plants.allStates();
        int[][] want = {{6, 2, 0}, {3, 1, 0}, {0, 0, 1}};
        for (int c = 0; c <= 2; c++) {
            int crew = c;
            Acts.told("25 busy people", x, p -> p.crew(crew, 2), want[c][0]);
            Acts.told("25 the tasks for which they are", x, p -> p.crew(crew, 3), want[c][1]);
            Acts.told("25 tasks that are done", x, p -> p.crew(crew, 4), want[c][2]);
        }
        x.lift(1, 0);
        x.lift(3, 0);
        Acts.told("25 nobody is busy then", x, p -> p.crew(0, 2), 0);
        Acts.told("25 for no task", x, p -> p.crew(0, 3), 0);
        Acts.told("25 the finished one is done, the other one is not", x, p -> p.crew(0, 4), 1);
        crewOfTheFirstAndTheLastTask();
    }

    private static void crewOfTheFirstAndTheLastTask() {
        Replay x = Plants.full();
        Plants.passTo(x, 100);
        int[] tasks = {0, 23};
        for (int i = 0; i < 2; i++) {
            int tasksThen = i + 1;
            x.hang(tasks[i], 4);
            Acts.told("25 the tasks of the last crew", x, p -> p.crew(4, 3), tasksThen);
            Acts.told("25 its busy people", x, p -> p.crew(4, 2), tasksThen);
            x.begin(tasks[i]);
        }
        x.pass(24);
        for (int i = 0; i < 2; i++) {
            int done = i + 1;
            x.lift(tasks[i], 4);
            Acts.told("25 its tasks that are done", x, p -> p.crew(4, 4), done);
            Acts.told("25 its tasks left", x, p -> p.crew(4, 3), 2 - done);
        }
    }

    private static void taskOfUnknownTasks() {
        for (int w = -1; w <= 13; w++) {
            int what = w;
            Acts.told("26 task(0, " + what + ") of none", Plants.small(), p -> p.task(0, what), UNKNOWN);
            Acts.outside("26 task(v, " + what + ")", withTasks(Plants.small(), 2),
                    (p, v) -> p.task(v, what), 0, 1, UNKNOWN);
            Acts.outside("26 task(v, " + what + ") of 24", Plants.full(), (p, v) -> p.task(v, what), 0, 23,
                    UNKNOWN);
        }
        Acts.told("26 the hours of the last one", Plants.full(), p -> p.task(23, 5), 24);
    }

    private static void taskWhatOutOfRange() {
        Replay x = withTasks(Plants.small(), 1);
        Acts.outside("26 task(0, v)", x, (p, v) -> p.task(0, v), 0, 12, BAD_VALUE);
        Acts.told("26 the least", x, p -> p.task(0, 0), 0);
        Acts.told("26 the greatest", x, p -> p.task(0, 12), NONE);
    }

    private static void inEachState(String call, int what, int[] want) {
        Replay x = Plants.allStates();
        for (int state = 0; state <= 6; state++) {
            int task = state;
            Acts.told(call + ", state " + state, x, p -> p.task(task, what), want[state]);
        }
    }

    /** "8 .. (NONE if none has, or it was lifted before the task began; it stays told when ..)". */
    private static void taskCrewInEachState() {
        inEachState("26 the state", 1, new int[] {0, 1, 2, 3, 4, 5, 6});
        inEachState("26 the crew", 8, new int[] {NONE, 0, 1, 0, 2, NONE, NONE});
        Replay x = Plants.allStates();
        x.lift(1, 0);
        Acts.told("26 lifted before it began", x, p -> p.task(1, 8), NONE);
        x.cancel(1);
        Acts.told("26 and cancelled", x, p -> p.task(1, 8), NONE);
        x.lift(3, 0);
        Acts.told("26 done by the crew 0", x, p -> p.task(3, 8), 0);
        Plants.passTo(x, 400);
        Acts.told("26 done long ago", x, p -> p.task(4, 8), 2);
    }

    /** "9 for the hours left (NONE if it is not in work)". */
    private static void taskHoursLeftInEachState() {
        inEachState("26 the hours left", 9, new int[] {NONE, NONE, 10, NONE, NONE, NONE, NONE});
        Replay x = Plants.allStates();
        x.pass(9);
        Acts.told("26 the last hour", x, p -> p.task(2, 9), 1);
        x.pass(1);
        Acts.told("26 no hour is left", x, p -> p.task(2, 9), NONE);
    }

    /** "11 for the reason why it cannot begin (0 to 4)": 1 unless it hangs. */
    private static void taskReasonInEachState() {
        inEachState("26 the reason", 11, new int[] {1, 0, 1, 1, 1, 1, 1});
    }

    /** "by which it is barred now, whatever its own state is (NONE .. or it is in work itself)". */
    private static void taskBarredWhateverItsState() {
        Replay x = Plants.allStates();
        for (int kind = 0; kind <= 4; kind++) {
            x.bar(2, kind, true);
        }
        for (int asset = 0; asset <= 7; asset++) {
            x.link(2, asset, true);
        }
        for (int state = 0; state <= 6; state++) {
            int task = state;
            int want = state == 2 ? NONE : 2;
            Acts.told("26 barred in the state " + state, x, p -> p.task(task, 12), want);
        }
        x.pass(10);
        for (int state = 0; state <= 6; state++) {
            int task = state;
            Acts.told("26 by none that is in work", x, p -> p.task(task, 12), NONE);
        }
    }

    /** "12 for the lowest task by which it is barred now". */
    private static void taskBarredByTheLowest() {
        Replay x = new Replay();
        x.addAsset(1, 1);
        for (int i = 0; i < 5; i++) {
            x.addCrew(6, 15);
        }
        for (int i = 0; i < 24; i++) {
            x.addTask(0, 0, 1, i == 12 ? 1 : 0, 48, 0);
        }
        x.bar(0, 1, true);
        Acts.told("26 barred by none", x, p -> p.task(12, 12), NONE);
        int[] order = {23, 13, 11, 17, 5, 0, 1};
        int lowest = 24;
        for (int task : order) {
            x.hang(task, task / 6);
            x.begin(task);
            lowest = Math.min(lowest, task);
            int want = lowest;
            Acts.told("26 the lowest", x, p -> p.task(12, 12), want);
            Acts.told("26 one of its kind is not barred", x, p -> p.task(2, 12), NONE);
        }
    }

    /** "A task is barred by another one that is in work": its own work bars it not. */
    private static void taskBarredByAnotherAlone() {
        Replay x = withTasks(Plants.small(), 3);
        x.bar(0, 0, true);
        x.hang(1, 0);
        x.hang(2, 0);
        Acts.told("26 what hangs is barred by none", x, p -> p.task(1, 12), NONE);
        x.begin(1);
        Acts.told("26 what is in work is barred by none", x, p -> p.task(1, 12), NONE);
        Acts.told("26 the one before it is", x, p -> p.task(0, 12), 1);
        Acts.told("26 the one behind it is", x, p -> p.task(2, 12), 1);
        x.bar(0, 0, false);
        x.begin(2);
        x.bar(0, 0, true);
        Acts.told("26 two in work, the first", x, p -> p.task(1, 12), NONE);
        Acts.told("26 two in work, the second", x, p -> p.task(2, 12), NONE);
    }

    private static void crewForUnknownTasks() {
        Acts.told("27 crewFor(0) of none", Plants.small(), p -> p.crewFor(0), UNKNOWN);
        Acts.outside("27 crewFor", withTasks(Plants.small(), 2), (p, v) -> p.crewFor(v), 0, 1, UNKNOWN);
        Acts.outside("27 crewFor of 24", Plants.full(), (p, v) -> p.crewFor(v), 0, 23, UNKNOWN);
        Acts.told("27 crewFor the last one", Plants.full(), p -> p.crewFor(23), 0);
    }

    /** "NONE if .. the task does not wait". */
    private static void crewForInEachState() {
        int[] want = {1, NONE, NONE, NONE, NONE, NONE, NONE};
        for (int state = 0; state <= 6; state++) {
            int task = state;
            Acts.told("27 crewFor, state " + state, Plants.allStates(), p -> p.crewFor(task), want[state]);
        }
    }

    /** "Returns the lowest such crew": the first and the last of five. */
    private static void crewForTheLowest() {
        for (int lowest = 0; lowest <= 4; lowest++) {
            Replay x = new Replay();
            x.addAsset(1, 1);
            for (int i = 0; i < 5; i++) {
                x.addCrew(i < lowest && i % 2 == 0 ? 2 : 3, i < lowest && i % 2 == 1 ? 11 : 4);
            }
            x.addTask(0, 2, 3, 0, 1, 9);
            int want = lowest;
            Acts.told("27 the lowest of five", x, p -> p.crewFor(0), want);
            Acts.act("27 it can hang the tag", x, p -> p.hang(0, want), 1);
        }
    }

    /** "NONE if there is none": without crews, without the skill, without people that are free. */
    private static void crewForNoneOfThem() {
        Replay x = new Replay();
        x.addAsset(1, 1);
        x.addTask(0, 3, 3, 0, 1, 0);
        x.addTask(0, 3, 1, 0, 1, 0);
        Acts.told("27 no crews", x, p -> p.crewFor(0), NONE);
        x.addCrew(6, 7);
        Acts.told("27 no skill", x, p -> p.crewFor(0), NONE);
        x.addCrew(2, 15);
        Acts.told("27 a person too few", x, p -> p.crewFor(0), NONE);
        x.addCrew(3, 8);
        Acts.told("27 just enough", x, p -> p.crewFor(0), 2);
        x.hang(1, 2);
        Acts.told("27 one of them is busy", x, p -> p.crewFor(0), NONE);
        x.lift(1, 2);
        Acts.told("27 they are free again", x, p -> p.crewFor(0), 2);
        Replay y = Plants.full();
        for (int i = 0; i < 5; i++) {
            for (int k = 0; k < 4; k++) {
                y.hang(4 * i + k, i);
            }
        }
        Acts.told("27 all five crews have two that are free", y, p -> p.crewFor(23), 0);
        y = new Replay();
        y.addAsset(1, 1);
        for (int i = 0; i < 5; i++) {
            y.addCrew(5, 15);
        }
        y.addTask(0, 0, 6, 0, 1, 0);
        Acts.told("27 none of five crews", y, p -> p.crewFor(0), NONE);
    }

    /** "(whether its asset runs does not matter)". */
    private static void crewForWhereTheAssetRuns() {
        Replay x = withTasks(Plants.small(), 2);
        Acts.told("27 it stands", x, p -> p.crewFor(0), 0);
        x.run(0);
        Acts.told("27 it runs", x, p -> p.crewFor(0), 0);
        x.stop(0);
        x.hang(1, 0);
        Acts.told("27 a tag hangs there", x, p -> p.crewFor(0), 0);
    }

    private static void countWhatOutOfRange() {
        Acts.outside("28 count", new Replay(), (p, v) -> p.count(v), 0, 16, BAD_VALUE);
        Acts.outside("28 count of a full plant", Plants.full(), (p, v) -> p.count(v), 0, 16, BAD_VALUE);
    }

    private static void counts(String call, Replay x, int... want) {
        for (int w = 0; w <= 16; w++) {
            int what = w;
            Acts.told("28 " + call + ": count(" + what + ")", x, p -> p.count(what), want[what]);
        }
    }

    /** Nothing, and as much as there can be, of each. */
    private static void countOfAFullPlant() {
        counts("nothing", new Replay(), 0, 0, 0, 0, 0, 0, 0, 0, 0, 0, 0, 0, 0, 0, 0, 0, 0);
        Replay x = Plants.full();
        counts("all rooms", x, 0, 8, 0, 5, 24, 24, 0, 0, 0, 0, 0, 0, 0, 0, 0, 4, 0);
        for (int i = 0; i < 8; i++) {
            x.run(i);
        }
        counts("all that runs", x, 0, 8, 8, 5, 24, 24, 0, 0, 0, 0, 0, 0, 0, 0, 0, 4, 0);
        for (int i = 0; i < 8; i++) {
            x.stop(i);
        }
        for (int i = 0; i < 24; i++) {
            x.hang(i, i / 6);
        }
        counts("all tags", x, 0, 8, 0, 5, 24, 0, 24, 0, 0, 0, 0, 0, 24, 0, 24, 4, 0);
        Plants.passTo(x, 100);
        for (int i = 0; i < 24; i++) {
            x.begin(i);
        }
        counts("all work", x, 100, 8, 0, 5, 24, 0, 0, 24, 0, 0, 0, 0, 24, 0, 24, 4, 0);
        x.pass(24);
        counts("all finished", x, 124, 8, 0, 5, 24, 0, 0, 0, 24, 0, 0, 0, 24, 0, 24, 4, 0);
        for (int i = 23; i >= 0; i--) {
            x.lift(i, i / 6);
        }
        counts("all done", x, 124, 8, 0, 5, 24, 0, 0, 0, 0, 24, 0, 0, 0, 0, 0, 4, 0);
        Plants.passTo(x, 2000);
        counts("the last hour", x, 2000, 8, 0, 5, 24, 0, 0, 0, 0, 24, 0, 0, 0, 0, 0, 4, 0);
    }

    /** "5 to 11 for tasks in the states 0 to 6, 12 for tags that hang, 13 for slips so far". */
    private static void countOfEachState() {
        Replay x = Plants.allStates();
        counts("all states", x, 101, 8, 0, 3, 7, 1, 1, 1, 1, 1, 1, 1, 3, 3, 9, 4, 0);
        Replay y = Plants.full();
        Plants.passTo(y, 1000);
        counts("all missed", y, 1000, 8, 0, 5, 24, 0, 0, 0, 0, 0, 24, 0, 0, 72, 0, 4, 0);
        Replay z = Plants.full();
        for (int i = 0; i < 24; i++) {
            z.cancel(i);
        }
        counts("all cancelled", z, 0, 8, 0, 5, 24, 0, 0, 0, 0, 0, 0, 24, 0, 0, 0, 4, 0);
    }

    /** "15 for the states in the history, 16 for the length of the text". */
    private static void countOfStatesAndCharacters() {
        Replay x = new Replay();
        for (int i = 0; i <= 6; i++) {
            int states = Math.min(4, i);
            Acts.told("28 states", x, p -> p.count(15), states);
            x.pass(1);
        }
        for (int i = 0; i <= 61; i++) {
            int length = Math.min(60, i);
            Check.due("28 characters", x.count(16), length);
            x.type('x');
        }
    }
}
