/**
 * Promise 13, and what the document says of numbers and of an hour that passes, edge by edge: each
 * sentence that names a boundary case has a test of its own, which quotes it.
 */
public final class HoursEdgesTest {
    private static final int BAD_VALUE = TagWindows.BAD_VALUE;
    private static final int NOT_POSSIBLE = TagWindows.NOT_POSSIBLE;
    private static final int NONE = TagWindows.NONE;

    public static void main(String[] args) {
        hoursThatPass();
        theHourIsAtMostTwoThousand();
        aBadValueComesAheadOfNotPossible();
        passReturnsWhatIsFinishedInThem();
        passOneAfterTheOther();
        outputComesAheadOfWear();
        theLeastHealth();
        whatStandsDoesNotWear();
        eachOperationIsRounded();
        theLastHourOfWork();
        healthIsMended();
        healthIsMendedByEachTask();
        noSlipAtTheEndOfTheWindow();
        slipAnHourLater();
        slipOnceInAnHour();
        whatWaitsSlipsThreeTimes();
        whatHangsAlwaysSlips();
        liftedBehindManySlips();
        noSlipInTheOtherStates();
        noSlipOfWorkThatBeganLate();
        theHourIsGreaterWhenItSlips();
        slipsGoBeyondTheLastHour();
        Check.end();
    }

    /** "hours: 1 to 48". */
    private static void hoursThatPass() {
        Acts.range("13 pass", Plants.small(), (p, v) -> p.pass(v), 1, 48, 0, BAD_VALUE);
        for (int hours = 1; hours <= 48; hours++) {
            Replay x = Plants.small();
            x.pass(hours);
            Check.due("13 the hour", x.count(0), hours);
        }
    }

    /** "NOT_POSSIBLE if the hour would become more than 2000": 2000 itself is no more. */
    private static void theHourIsAtMostTwoThousand() {
        int[][] fit = {{1952, 48}, {1953, 47}, {1999, 1}};
        for (int[] f : fit) {
            Replay x = Plants.smallAt(f[0]);
            Acts.refused("13 pass(" + (f[1] + 1) + ") at " + f[0], x, p -> p.pass(f[1] + 1),
                    f[1] == 48 ? BAD_VALUE : NOT_POSSIBLE);
            Acts.done("13 pass(" + f[1] + ") at " + f[0], x, p -> p.pass(f[1]), 0);
            Acts.told("13 the last hour", x, p -> p.count(0), 2000);
            Acts.refused("13 pass(1) at 2000", x, p -> p.pass(1), NOT_POSSIBLE);
            Acts.refused("13 pass(48) at 2000", x, p -> p.pass(48), NOT_POSSIBLE);
        }
        Acts.refused("13 pass(48) at 1953", Plants.smallAt(1953), p -> p.pass(48), NOT_POSSIBLE);
    }

    private static void aBadValueComesAheadOfNotPossible() {
        Acts.outside("13 pass at 2000", Plants.smallAt(2000), (p, v) -> p.pass(v), 1, 48, BAD_VALUE);
        Acts.outside("13 pass at 1999", Plants.smallAt(1999), (p, v) -> p.pass(v), 1, 48, BAD_VALUE);
    }

    /** "Returns how many tasks are finished in them". */
    private static void passReturnsWhatIsFinishedInThem() {
        Replay x = Plants.full();
        Plants.passTo(x, 100);
        for (int i = 0; i < 24; i++) {
            x.hang(i, i / 6);
            x.begin(i);
        }
        Acts.act("13 none is finished yet", Plants.allStates(), p -> p.pass(9), 0);
        Acts.act("13 the one of ten hours is", Plants.allStates(), p -> p.pass(10), 1);
        Acts.act("13 the first of 24", x, p -> p.pass(1), 1);
        Acts.act("13 all but the last of 24", x, p -> p.pass(23), 23);
        Acts.act("13 all of 24", x, p -> p.pass(24), 24);
        Acts.done("13 all of 24 and more hours", x, p -> p.pass(48), 24);
        Acts.act("13 none of them once more", x, p -> p.pass(48), 0);
    }

    /** "Lets hours pass, one after the other": 48 at once are 48 times one. */
    private static void passOneAfterTheOther() {
        Replay x = Plants.allStates();
        x.run(0);
        x.run(7);
        Replay once = x.copy();
        Replay often = x.copy();
        once.pass(48);
        for (int i = 0; i < 48; i++) {
            often.pass(1);
        }
        Check.due("13 48 hours at once", Told.state(once), Told.state(often));
    }

    /** "its output becomes output + rate * health, and then its health becomes ..". */
    private static void outputComesAheadOfWear() {
        Replay x = new Replay();
        x.addAsset(100, 200);
        x.run(0);
        Acts.act("13 the first hour", x, p -> p.pass(1), 0);
        x.pass(1);
        Check.dueFloat("13 the output of the first hour", x.real(0, 1), 100.0f);
        Check.dueFloat("13 the health behind it", x.real(0, 0), 1.0f - 1.0f * 0.2f);
        x.pass(1);
        Check.dueFloat("13 the output of the second one", x.real(0, 1), 180.0f);
    }

    /** "health - health * wear, but at least 0.01f". */
    private static void theLeastHealth() {
        for (int wear = 20; wear <= 200; wear += 45) {
            Replay x = new Replay();
            x.addAsset(1, wear);
            x.run(0);
            float health = 1.0f;
            float itsWear = wear / 1000.0f;
            int atTheLeast = 0;
            for (int i = 0; i < 300 && atTheLeast < 3; i++) {
                x.pass(1);
                float worn = health - health * itsWear;
                health = worn < 0.01f ? 0.01f : worn;
                atTheLeast += health == 0.01f ? 1 : 0;
                Check.dueFloat("13 health of wear " + wear, x.real(0, 0), health);
            }
            Check.due("13 the least health is met", atTheLeast, 3);
        }
    }

    private static void whatStandsDoesNotWear() {
        Replay x = Plants.small();
        x.run(0);
        x.pass(48);
        Check.dueFloat("13 health of one that stands", x.real(1, 0), 1.0f);
        Check.dueFloat("13 output of one that stands", x.real(1, 1), 0.0f);
        x.stop(0);
        float health = x.real(0, 0);
        float output = x.real(0, 1);
        x.pass(48);
        Check.dueFloat("13 health of one that was stopped", x.real(0, 0), health);
        Check.dueFloat("13 output of one that was stopped", x.real(0, 1), output);
    }

    /** "Each operation with them is done in floats, rounded by itself". */
    private static void eachOperationIsRounded() {
        int differ = 0;
        for (int wear = 3; wear <= 200; wear += 7) {
            Replay x = new Replay();
            x.addAsset(wear % 100 + 1, wear);
            x.run(0);
            float health = 1.0f;
            float output = 0.0f;
            double wide = 1.0;
            for (int i = 0; i < 100; i++) {
                x.pass(1);
                float put = (float) (wear % 100 + 1) * health;
                output = output + put;
                float worn = health * (wear / 1000.0f);
                health = health - worn;
                health = health < 0.01f ? 0.01f : health;
                wide = Math.max(wide - wide * (wear / 1000.0), 0.01);
                differ += (float) wide == health ? 0 : 1;
                Check.dueFloat("13 health of wear " + wear, x.real(0, 0), health);
                Check.dueFloat("13 output of wear " + wear, x.real(0, 1), output);
            }
        }
        Check.due("13 doubles would be told from floats", differ > 0 ? 1 : 0, 1);
    }

    /** "1 hour less left (at its begin it has all its hours left); if none is left it is finished". */
    private static void theLastHourOfWork() {
        int[] hours = {1, 2, 48};
        for (int h : hours) {
            Replay x = Plants.small();
            x.addTask(0, 1, 1, 0, h, 0);
            x.hang(0, 0);
            Acts.told("13 no hours left before its begin", x, p -> p.task(0, 9), NONE);
            x.begin(0);
            for (int left = h; left >= 1; left--) {
                Check.due("13 hours left of " + h, x.task(0, 9), left);
                Check.due("13 in work", x.task(0, 1), 2);
                Check.due("13 finished", x.pass(1), left == 1 ? 1 : 0);
            }
            Acts.told("13 finished then", x, p -> p.task(0, 1), 3);
            Acts.told("13 no hours left then", x, p -> p.task(0, 9), NONE);
        }
    }

    /** "the health of its asset becomes health + (1.0f - health) * 0.75f". */
    private static void healthIsMended() {
        for (int worn = 0; worn <= 60; worn += 10) {
            Replay x = Plants.small();
            x.addTask(0, 1, 1, 0, 2, 70);
            x.run(0);
            x.run(1);
            Plants.passTo(x, worn);
            x.stop(0);
            Plants.passTo(x, 70);
            float health = x.real(0, 0);
            float other = x.real(1, 0);
            float output = x.real(0, 1);
            x.stop(1);
            x.hang(0, 0);
            x.begin(0);
            x.pass(1);
            Check.dueFloat("13 not mended while in work", x.real(0, 0), health);
            x.pass(1);
            Check.dueFloat("13 mended behind " + worn, x.real(0, 0), health + (1.0f - health) * 0.75f);
            Check.dueFloat("13 another asset is not", x.real(1, 0), other);
            Check.dueFloat("13 the output stays", x.real(0, 1), output);
            float mended = x.real(0, 0);
            x.pass(5);
            x.lift(0, 0);
            Check.dueFloat("13 it is mended but once", x.real(0, 0), mended);
        }
    }

    private static void healthIsMendedByEachTask() {
        Replay x = Plants.small();
        x.addTask(0, 1, 1, 0, 1, 10);
        x.addTask(0, 1, 1, 0, 1, 10);
        x.addTask(0, 1, 1, 0, 2, 10);
        x.run(0);
        x.pass(10);
        x.stop(0);
        float health = x.real(0, 0);
        for (int i = 0; i < 3; i++) {
            x.hang(i, 0);
            x.begin(i);
        }
        Acts.done("13 two are finished in one hour", x, p -> p.pass(1), 2);
        health = health + (1.0f - health) * 0.75f;
        health = health + (1.0f - health) * 0.75f;
        Check.dueFloat("13 mended twice", x.real(0, 0), health);
        Acts.done("13 one in the next", x, p -> p.pass(1), 1);
        health = health + (1.0f - health) * 0.75f;
        Check.dueFloat("13 mended three times", x.real(0, 0), health);
    }

    /** A waiting and a hanging task of some hours, from the hour 0 on. */
    private static Replay waitingAndHanging(int hours) {
        Replay x = Plants.small();
        x.addTask(0, 1, 1, 0, hours, 0);
        x.addTask(1, 1, 1, 0, hours, 0);
        x.hang(1, 0);
        return x;
    }

    private static void taskIs(Replay x, int task, int state, int from, int to, int slips) {
        Acts.told("13 the state of " + task, x, p -> p.task(task, 1), state);
        Acts.told("13 the window of " + task + " begins", x, p -> p.task(task, 6), from);
        Acts.told("13 the window of " + task + " ends", x, p -> p.task(task, 7), to);
        Acts.told("13 the slips of " + task, x, p -> p.task(task, 10), slips);
    }

    /** "for which hour + hours is greater than the end of its window": equal is not greater. */
    private static void noSlipAtTheEndOfTheWindow() {
        int[] hours = {1, 48};
        for (int h : hours) {
            Replay x = waitingAndHanging(h);
            Plants.passTo(x, h + 6);
            taskIs(x, 0, 0, 0, 2 * h + 6, 0);
            taskIs(x, 1, 1, 0, 2 * h + 6, 0);
        }
    }

    /** "slips: its window begins and ends 24 hours later". */
    private static void slipAnHourLater() {
        int[] hours = {1, 48};
        for (int h : hours) {
            Replay x = waitingAndHanging(h);
            Plants.passTo(x, h + 7);
            taskIs(x, 0, 0, 24, 2 * h + 30, 1);
            taskIs(x, 1, 1, 24, 2 * h + 30, 1);
            Acts.told("13 slips so far", x, p -> p.count(13), 2);
        }
    }

    private static void slipOnceInAnHour() {
        Replay x = waitingAndHanging(1);
        Plants.passTo(x, 31);
        taskIs(x, 0, 0, 24, 32, 1);
        taskIs(x, 1, 1, 24, 32, 1);
        x.pass(1);
        taskIs(x, 0, 0, 48, 56, 2);
        taskIs(x, 1, 1, 48, 56, 2);
    }

    /** "A task in the state 0 that has slipped 3 times or more already is missed instead". */
    private static void whatWaitsSlipsThreeTimes() {
        Replay x = waitingAndHanging(1);
        Plants.passTo(x, 55);
        taskIs(x, 0, 0, 48, 56, 2);
        x.pass(1);
        taskIs(x, 0, 0, 72, 80, 3);
        Plants.passTo(x, 79);
        taskIs(x, 0, 0, 72, 80, 3);
        Acts.told("13 not missed yet", x, p -> p.count(10), 0);
        Acts.done("13 the hour at which it is missed", x, p -> p.pass(1), 0);
        taskIs(x, 0, 5, 72, 80, 3);
        Acts.told("13 missed", x, p -> p.count(10), 1);
        Plants.passTo(x, 500);
        taskIs(x, 0, 5, 72, 80, 3);
    }

    /** "one in the state 1 always slips". */
    private static void whatHangsAlwaysSlips() {
        Replay x = waitingAndHanging(1);
        for (int slips = 3; slips <= 8; slips++) {
            Plants.passTo(x, 7 + 24 * slips);
            taskIs(x, 1, 1, 24 * slips, 24 * slips + 8, slips);
        }
    }

    /** "3 times or more already": one that hung may have slipped four times when it waits again. */
    private static void liftedBehindManySlips() {
        for (int slips = 2; slips <= 5; slips++) {
            Replay x = waitingAndHanging(1);
            Plants.passTo(x, 7 + 24 * slips);
            x.lift(1, 0);
            taskIs(x, 1, 0, 24 * slips, 24 * slips + 8, slips);
            x.pass(1);
            if (slips == 2) {
                taskIs(x, 1, 0, 72, 80, 3);
            } else {
                taskIs(x, 1, 5, 24 * slips, 24 * slips + 8, slips);
            }
        }
    }

    /** "Each task, by number, in the state 0 or 1 .. slips": the others do not. */
    private static void noSlipInTheOtherStates() {
        Replay x = Plants.allStates();
        x.addTask(7, 0, 1, 0, 48, 101);
        x.hang(7, 2);
        x.begin(7);
        int[] froms = {0, 0, 100, 100, 100, 72, 100, 101};
        int[] slips = {0, 0, 0, 0, 0, 3, 0, 0};
        Plants.passTo(x, 107);
        Acts.told("13 slips so far", x, p -> p.count(13), 3);
        x.pass(1);
        Acts.told("13 slips so far of 0 and 1", x, p -> p.count(13), 5);
        Plants.passTo(x, 148);
        for (int t = 2; t <= 7; t++) {
            taskIs(x, t, t == 2 ? 3 : t == 7 ? 2 : t, froms[t], x.task(t, 7), slips[t]);
            Check.due("13 the window is as long as ever", x.task(t, 7) - froms[t], 2 * x.task(t, 5) + 6);
        }
        x.pass(1);
        Acts.told("13 the long one is finished", x, p -> p.task(7, 1), 3);
        Acts.told("13 it has not slipped", x, p -> p.task(7, 10), 0);
    }

    /** Begun at the last hour, it is in work while hour + hours is greater than the end. */
    private static void noSlipOfWorkThatBeganLate() {
        Replay x = waitingAndHanging(4);
        Plants.passTo(x, 10);
        Acts.done("13 begin at the last hour", x, p -> p.begin(1), 14);
        for (int left = 3; left >= 1; left--) {
            x.pass(1);
            taskIs(x, 1, 2, 0, 14, 0);
            Check.due("13 hours left", x.task(1, 9), left);
        }
        taskIs(x, 0, 0, 24, 38, 1);
        Acts.done("13 its last hour", x, p -> p.pass(1), 1);
        taskIs(x, 1, 3, 0, 14, 0);
        x.pass(9);
        taskIs(x, 1, 3, 0, 14, 0);
        x.lift(1, 0);
        x.pass(9);
        taskIs(x, 1, 4, 0, 14, 0);
    }

    /** Its third step is ahead of the fourth: the hour that is asked for is the new one. */
    private static void theHourIsGreaterWhenItSlips() {
        Replay x = Plants.smallAt(1991);
        x.addTask(0, 1, 1, 0, 1, 1991);
        x.pass(7);
        Acts.told("13 no slip at 1998", x, p -> p.task(0, 10), 0);
        x.pass(1);
        Acts.told("13 a slip at 1999", x, p -> p.task(0, 10), 1);
        Acts.told("13 the hour", x, p -> p.count(0), 1999);
    }

    /** The hour is at most 2000, a window may end later. */
    private static void slipsGoBeyondTheLastHour() {
        Replay x = Plants.smallAt(1992);
        x.addTask(0, 1, 1, 0, 1, 1992);
        x.pass(7);
        taskIs(x, 0, 0, 1992, 2000, 0);
        x.pass(1);
        taskIs(x, 0, 0, 2016, 2024, 1);
        x.hang(0, 0);
        Acts.told("13 its window is never reached", x, p -> p.task(0, 11), 2);
    }
}
