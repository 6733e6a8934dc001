/** Promises 9 to 13: tags, work, slips and hours that pass. */
public final class WorkPromisesTest {
    public static void main(String[] args) {
        promise9();
        promise9People();
        promise10();
        promise10Barred();
        promise11();
        promise12();
        promise13();
        promise13RunsAndWears();
        promise13Finishes();
        promise13Slips();
        Check.end();
    }

    private static void promise9() {
        Replay x = Plants.plain();
        x.addTask(0, 1, 2, 0, 1, 5);
        x.addTask(0, 2, 2, 0, 1, 0);
        x.addTask(0, 1, 1, 0, 1, 0);
        Acts.refused("hang(3, 0)", x, p -> p.hang(3, 0), -1);
        Acts.refused("hang(-1, 0)", x, p -> p.hang(-1, 0), -1);
        Acts.refused("hang(0, 2)", x, p -> p.hang(0, 2), -1);
        Acts.refused("hang(0, -1)", x, p -> p.hang(0, -1), -1);
        x.run(0);
        Acts.refused("hang at an asset that runs", x, p -> p.hang(0, 1), -4);
        x.stop(0);
        Acts.refused("hang without the skill", x, p -> p.hang(1, 1), -4);
        Acts.done("hang(0, 1) ahead of its window", x, p -> p.hang(0, 1), 1);
        Check.due("the state", x.task(0, 1), 1);
        Check.due("the crew that hung it", x.task(0, 8), 1);
        Acts.refused("hang what hangs", x, p -> p.hang(0, 0), -4);
        Acts.refused("hang with busy people", x, p -> p.hang(2, 1), -4);
        Acts.done("hang(2, 0)", x, p -> p.hang(2, 0), 2);
        Acts.done("hang(1, 0)", x, p -> p.hang(1, 0), 3);
        x.lift(1, 0);
        x.cancel(1);
        Acts.refused("hang a cancelled one", x, p -> p.hang(1, 0), -4);
    }

    private static void promise9People() {
        Replay x = Plants.plain();
        for (int i = 0; i < 4; i++) {
            x.addTask(1, 0, 2, 0, 2, 0);
        }
        Check.due("two of six", x.hang(0, 0), 1);
        Check.due("four of six", x.hang(1, 0), 2);
        Check.due("six of six", x.hang(2, 0), 3);
        Acts.refused("eight of six", x, p -> p.hang(3, 0), -4);
        x.begin(2);
        x.pass(2);
        Check.due("finished", x.task(2, 1), 3);
        Acts.refused("people are busy until the tag is lifted", x, p -> p.hang(3, 0), -4);
        Check.due("lift(2, 0)", x.lift(2, 0), 2);
        Acts.done("then they are free", x, p -> p.hang(3, 0), 3);
    }

    private static void promise10() {
        Replay x = Plants.plain();
        x.addTask(0, 0, 1, 0, 3, 4);
        Acts.refused("begin(1)", x, p -> p.begin(1), -1);
        Acts.refused("begin(-1)", x, p -> p.begin(-1), -1);
        Acts.refused("begin what waits", x, p -> p.begin(0), -4);
        x.hang(0, 0);
        x.pass(3);
        Acts.refused("begin an hour too early", x, p -> p.begin(0), -4);
        x.pass(1);
        Acts.done("begin(0)", x, p -> p.begin(0), 7);
        Check.due("in work", x.task(0, 1), 2);
        Check.due("hours left", x.task(0, 9), 3);
        Acts.refused("begin what is in work", x, p -> p.begin(0), -4);
        x.pass(3);
        Acts.refused("begin what is finished", x, p -> p.begin(0), -4);
        x.lift(0, 0);
        Acts.refused("begin what is done", x, p -> p.begin(0), -4);
        latestBegin();
    }

    private static void latestBegin() {
        Replay x = Plants.plain();
        x.addTask(0, 0, 1, 0, 3, 0);
        x.hang(0, 0);
        x.pass(9);
        Check.due("the window of 3 hours ends at 12", x.task(0, 7), 12);
        Check.due("no reason at the last hour", x.task(0, 11), 0);
        Acts.done("begin at the last hour", x, p -> p.begin(0), 12);
    }

    private static void promise10Barred() {
        Replay x = Plants.plain();
        x.addAsset(5, 5);
        x.addTask(0, 0, 1, 1, 5, 0);
        x.addTask(1, 0, 1, 2, 5, 0);
        x.addTask(2, 0, 1, 2, 5, 0);
        x.addTask(0, 0, 1, 1, 5, 0);
        for (int i = 0; i < 4; i++) {
            x.hang(i, 0);
        }
        x.link(0, 1, true);
        x.bar(2, 1, true);
        Check.due("not barred by what does not work", x.task(1, 11), 0);
        Check.due("begin(0)", x.begin(0), 5);
        Acts.refused("barred on a linked asset", x, p -> p.begin(1), -4);
        Check.due("by", x.task(1, 12), 0);
        Check.due("not barred elsewhere", x.task(2, 11), 0);
        Check.due("its own kind does not bar itself", x.task(3, 11), 0);
        x.bar(1, 1, true);
        Acts.refused("the same kind on the same asset", x, p -> p.begin(3), -4);
        x.link(1, 0, false);
        Acts.done("not barred when not linked", x, p -> p.begin(1), 5);
        x.link(2, 1, true);
        x.link(2, 0, true);
        Check.due("barred by the task on the asset 0 alone", x.task(2, 12), 0);
        x.bar(2, 2, true);
        x.bar(1, 2, false);
        Check.due("barred by the task on the asset 1 then", x.task(2, 12), 1);
        x.pass(5);
        Check.due("what is finished bars none", x.task(2, 12), -5);
        Check.due("begin(2) then", x.begin(2), 10);
    }

    private static void promise11() {
        Replay x = Plants.plain();
        x.addTask(0, 1, 1, 0, 2, 0);
        x.addTask(0, 1, 1, 0, 2, 0);
        x.addTask(1, 1, 1, 0, 2, 0);
        Acts.refused("lift(3, 0)", x, p -> p.lift(3, 0), -1);
        Acts.refused("lift(-1, 0)", x, p -> p.lift(-1, 0), -1);
        Acts.refused("lift(0, 2)", x, p -> p.lift(0, 2), -1);
        Acts.refused("lift(0, -1)", x, p -> p.lift(0, -1), -1);
        Acts.refused("lift what waits", x, p -> p.lift(0, 0), -4);
        x.hang(0, 0);
        x.hang(2, 1);
        x.hang(1, 1);
        Acts.refused("lift under another tag", x, p -> p.lift(0, 0), -4);
        Acts.refused("lift by another crew", x, p -> p.lift(1, 0), -4);
        Acts.done("lift(1, 1)", x, p -> p.lift(1, 1), 1);
        Check.due("it waits again", x.task(1, 1), 0);
        Check.due("no crew is told", x.task(1, 8), -5);
        x.begin(0);
        Acts.refused("lift in work", x, p -> p.lift(0, 0), -4);
        x.hang(1, 0);
        x.pass(2);
        Acts.refused("a finished one under another tag", x, p -> p.lift(0, 0), -4);
        Acts.done("lift(1, 0)", x, p -> p.lift(1, 0), 1);
        Acts.refused("a finished one by another crew", x, p -> p.lift(0, 1), -4);
        Acts.done("lift(0, 0)", x, p -> p.lift(0, 0), 0);
        Check.due("it is done", x.task(0, 1), 4);
        Check.due("its crew stays told", x.task(0, 8), 0);
        Acts.refused("lift what is done", x, p -> p.lift(0, 0), -4);
        Check.due("the tag at the other asset", x.asset(1, 1), 1);
    }

    private static void promise12() {
        Replay x = Plants.plain();
        x.addTask(0, 1, 1, 0, 1, 0);
        x.addTask(0, 1, 1, 0, 1, 0);
        x.addTask(0, 1, 1, 0, 1, 0);
        Acts.refused("cancel(3)", x, p -> p.cancel(3), -1);
        Acts.refused("cancel(-1)", x, p -> p.cancel(-1), -1);
        Acts.done("cancel(0)", x, p -> p.cancel(0), 0);
        Check.due("the state", x.task(0, 1), 6);
        Acts.refused("cancel(0) again", x, p -> p.cancel(0), -4);
        x.hang(1, 0);
        Acts.refused("cancel what hangs", x, p -> p.cancel(1), -4);
        x.pass(34);
        Check.due("slips of 2", x.task(2, 10), 2);
        Acts.done("cancel(2)", x, p -> p.cancel(2), 2);
        x.pass(48);
        Check.due("a cancelled one does not slip", x.task(2, 10), 2);
        Check.due("nor did the one cancelled first", x.task(0, 10), 0);
        Check.due("slips so far", x.count(13), 2 + x.task(1, 10));
    }

    private static void promise13() {
        Replay x = Plants.plain();
        int[] wrong = {0, -1, 49, Integer.MAX_VALUE, Integer.MIN_VALUE};
        for (int w : wrong) {
            Acts.refused("pass(" + w + ")", x, p -> p.pass(w), -2);
        }
        Acts.done("pass(1)", x, p -> p.pass(1), 0);
        Acts.done("pass(48)", x, p -> p.pass(48), 0);
        Check.due("the hour", x.count(0), 49);
        for (int i = 0; i < 40; i++) {
            x.pass(48);
        }
        Check.due("the hour", x.count(0), 1969);
        Acts.refused("pass(32) of 31", x, p -> p.pass(32), -4);
        Acts.refused("pass(49) near the end", x, p -> p.pass(49), -2);
        Acts.done("pass(31)", x, p -> p.pass(31), 0);
        Check.due("the last hour", x.count(0), 2000);
        Acts.refused("pass(1) at the end", x, p -> p.pass(1), -4);
        Acts.refused("pass(0) at the end", x, p -> p.pass(0), -2);
        Acts.done("a task at the last hour", x, p -> p.addTask(0, 0, 1, 0, 1, 2000), 0);
    }

    private static void promise13RunsAndWears() {
        Replay x = Plants.plain();
        x.addAsset(100, 200);
        x.run(0);
        x.run(2);
        float health = 1.0f;
        float output = 0.0f;
        float wear = 100 / 1000.0f;
        for (int i = 0; i < 60; i++) {
            x.pass(1);
            output = output + 10 * health;
            health = health - health * wear;
            if (health < 0.01f) {
                health = 0.01f;
            }
            Check.dueFloat("health of 0", x.real(0, 0), health);
            Check.dueFloat("output of 0", x.real(0, 1), output);
        }
        Check.dueFloat("the least health", x.real(2, 0), 0.01f);
        Check.dueFloat("what stands does not wear", x.real(1, 0), 1.0f);
        Check.dueFloat("nor put out", x.real(1, 1), 0.0f);
        Check.dueFloat("wear stays", x.real(2, 2), 0.2f);
        Replay y = Plants.plain();
        y.run(0);
        y.pass(2);
        Check.dueFloat("health after two hours", y.real(0, 0), 0.81f);
        Check.dueFloat("output after two hours", y.real(0, 1), 19.0f);
    }

    private static void promise13Finishes() {
        Replay x = Plants.plain();
        x.addTask(0, 0, 1, 0, 2, 10);
        x.addTask(0, 0, 1, 0, 2, 10);
        x.addTask(1, 0, 1, 0, 3, 10);
        x.run(0);
        x.pass(10);
        x.stop(0);
        float worn = x.real(0, 0);
        for (int i = 0; i < 3; i++) {
            x.hang(i, 0);
            x.begin(i);
        }
        Acts.done("the first hour of work", x, p -> p.pass(1), 0);
        Check.due("hours left", x.task(0, 9), 1);
        Check.dueFloat("not mended yet", x.real(0, 0), worn);
        Acts.done("the second one", x, p -> p.pass(1), 2);
        float once = worn + (1.0f - worn) * 0.75f;
        float twice = once + (1.0f - once) * 0.75f;
        Check.dueFloat("mended by two tasks", x.real(0, 0), twice);
        Check.due("hours left of a finished one", x.task(0, 9), -5);
        Acts.done("the third one", x, p -> p.pass(30), 1);
        Check.dueFloat("mended but once each", x.real(0, 0), twice);
        Check.due("finished ones stay so", x.count(8), 3);
        Check.due("and do not slip", x.count(13), 0);
    }

    private static void promise13Slips() {
        Replay x = Plants.plain();
        x.addTask(0, 0, 1, 0, 2, 0);
        x.addTask(0, 0, 1, 0, 2, 0);
        x.addTask(0, 0, 1, 0, 48, 0);
        x.hang(1, 0);
        x.pass(8);
        Check.due("at the hour 8 of 10, 2 hours fit", x.count(13), 0);
        x.pass(1);
        int[][] slips = {{9, 1}, {33, 2}, {57, 3}};
        for (int[] s : slips) {
            Check.due("the hour", x.count(0), s[0]);
            for (int t = 0; t < 2; t++) {
                Check.due("slips", x.task(t, 10), s[1]);
                Check.due("from", x.task(t, 6), 24 * s[1]);
                Check.due("to", x.task(t, 7), 10 + 24 * s[1]);
                Check.due("the state", x.task(t, 1), t);
            }
            x.pass(24);
        }
        Check.due("the one that waits is missed", x.task(0, 1), 5);
        Check.due("it did not slip again", x.task(0, 10), 3);
        Check.due("nor did its window", x.task(0, 7), 82);
        Check.due("the one that hangs slips", x.task(1, 10), 4);
        Check.due("and hangs still", x.task(1, 1), 1);
        Check.due("a long one slips at its own hours, 55 and 79", x.task(2, 10), 2);
        Check.due("slips so far", x.count(13), 9);
        x.lift(1, 0);
        x.pass(24);
        Check.due("lifted, it is missed at the next", x.task(1, 1), 5);
        Check.due("with its slips", x.task(1, 10), 4);
        Acts.refused("hang a missed one", x, p -> p.hang(1, 0), -4);
        Acts.refused("cancel a missed one", x, p -> p.cancel(1), -4);
        workDoesNotSlip();
    }

    /** Work that has begun has its hours, though its window ends meanwhile. */
    private static void workDoesNotSlip() {
        Replay x = Plants.plain();
        x.addTask(0, 0, 1, 0, 4, 0);
        x.hang(0, 0);
        x.pass(10);
        x.begin(0);
        x.pass(3);
        Check.due("in work it does not slip", x.task(0, 10), 0);
        Check.due("an hour is left", x.task(0, 9), 1);
        Check.due("it is finished", x.pass(1), 1);
    }
}
