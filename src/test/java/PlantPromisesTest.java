/** Promises 1 to 8: what there is, and assets that run and stop. */
public final class PlantPromisesTest {
    public static void main(String[] args) {
        promise1();
        promise2();
        promise3();
        promise4();
        promise5();
        promise6();
        promise6Errors();
        promise7And8();
        Check.end();
    }

    private static void promise1() {
        Replay x = new Replay();
        for (int what = 0; what <= 16; what++) {
            Check.due("new: count(" + what + ")", x.count(what), 0);
        }
        Check.due("new: asset(0, 0)", x.asset(0, 0), TagWindows.UNKNOWN);
        Check.due("new: crew(0, 0)", x.crew(0, 0), TagWindows.UNKNOWN);
        Check.due("new: task(0, 0)", x.task(0, 0), TagWindows.UNKNOWN);
        Check.due("new: undo()", x.undo(), TagWindows.NONE);
        Check.due("new: restore()", x.restore(), TagWindows.NONE);
        Check.due("new: clearText()", x.clearText(), 0);
        for (int kind = 0; kind < 5; kind++) {
            Check.due("new: no kind bars " + kind, x.bar(kind, 4, false), TagWindows.NONE);
        }
        x.addAsset(1, 1);
        Check.due("another object is another plant", new Replay().count(1), 0);
    }

    private static void promise2() {
        Replay x = new Replay();
        int[][] wrong = {{0, 1}, {101, 1}, {1, 0}, {1, 201}, {-1, 5}, {5, -1},
            {Integer.MIN_VALUE, 1}, {Integer.MAX_VALUE, 1}, {1, Integer.MIN_VALUE}};
        for (int[] w : wrong) {
            Acts.refused("addAsset(" + w[0] + ", " + w[1] + ")", x, p -> p.addAsset(w[0], w[1]), -2);
        }
        Acts.done("addAsset(1, 1)", x, p -> p.addAsset(1, 1), 0);
        Acts.done("addAsset(100, 200)", x, p -> p.addAsset(100, 200), 1);
        Check.dueFloat("the wear of 1", x.real(0, 2), 0.001f);
        Check.dueFloat("the wear of 200", x.real(1, 2), 0.2f);
        Check.dueFloat("the health at first", x.real(1, 0), 1.0f);
        Check.dueFloat("the output at first", x.real(1, 1), 0.0f);
        Check.due("it stands at first", x.asset(1, 0), 0);
        Check.due("it is linked to none at first", x.asset(1, 3), 0);
        for (int i = 2; i < 8; i++) {
            Check.due("addAsset " + i, x.addAsset(10, 10), i);
        }
        Acts.refused("the ninth asset", x, p -> p.addAsset(10, 10), -3);
        Acts.refused("a wrong ninth asset", x, p -> p.addAsset(0, 10), -2);
        numbersAreUsedAgain();
    }

    /** A number that undo() gave back belongs to a fresh asset, not to the one that was. */
    private static void numbersAreUsedAgain() {
        Replay x = new Replay();
        x.addAsset(1, 1);
        x.addAsset(50, 50);
        x.link(0, 1, true);
        x.run(1);
        x.pass(5);
        for (int i = 0; i < 4; i++) {
            x.undo();
        }
        Check.due("one asset is left", x.count(1), 1);
        Check.due("addAsset after undo", x.addAsset(2, 2), 1);
        Check.due("it stands", x.asset(1, 0), 0);
        Check.due("it is not linked", x.asset(1, 3), 0);
        Check.dueFloat("its health", x.real(1, 0), 1.0f);
        Check.dueFloat("its output", x.real(1, 1), 0.0f);
    }

    private static void promise3() {
        Replay x = new Replay();
        for (int i = 0; i < 8; i++) {
            x.addAsset(10, 10);
        }
        Acts.refused("link(8, 0, true)", x, p -> p.link(8, 0, true), -1);
        Acts.refused("link(0, 8, true)", x, p -> p.link(0, 8, true), -1);
        Acts.refused("link(-1, 0, true)", x, p -> p.link(-1, 0, true), -1);
        Acts.refused("link(0, -1, true)", x, p -> p.link(0, -1, true), -1);
        Acts.refused("link(9, 9, true)", x, p -> p.link(9, 9, true), -1);
        Acts.refused("link(3, 3, true)", x, p -> p.link(3, 3, true), -2);
        Acts.refused("link(3, 3, false)", x, p -> p.link(3, 3, false), -2);
        Acts.refused("link(0, 7, false)", x, p -> p.link(0, 7, false), -5);
        Acts.done("link(0, 7, true)", x, p -> p.link(0, 7, true), 1);
        Acts.refused("link(7, 0, true)", x, p -> p.link(7, 0, true), -5);
        Acts.done("link(3, 7, true)", x, p -> p.link(3, 7, true), 1);
        Acts.done("link(7, 5, true)", x, p -> p.link(7, 5, true), 3);
        Check.due("the links of 7", x.asset(7, 3), 1 + 8 + 32);
        Check.due("the links of 0", x.asset(0, 3), 128);
        Acts.done("link(7, 3, false)", x, p -> p.link(7, 3, false), 2);
        Check.due("the links of 3", x.asset(3, 3), 0);
        Acts.done("link(0, 7, false)", x, p -> p.link(0, 7, false), 0);
        Check.due("the links of 7 then", x.asset(7, 3), 32);
    }

    private static void promise4() {
        Replay x = new Replay();
        int[][] wrong = {{-1, 0}, {0, -1}, {5, 0}, {0, 5}, {Integer.MAX_VALUE, 0},
            {0, Integer.MIN_VALUE}};
        for (int[] w : wrong) {
            Acts.refused("bar(" + w[0] + ", " + w[1] + ")", x, p -> p.bar(w[0], w[1], true), -2);
            Acts.refused("not bar(" + w[0] + ", " + w[1] + ")", x, p -> p.bar(w[0], w[1], false), -2);
        }
        Acts.refused("bar(2, 2, false)", x, p -> p.bar(2, 2, false), -5);
        Acts.done("bar(2, 2, true)", x, p -> p.bar(2, 2, true), 1);
        Acts.refused("bar(2, 2, true) again", x, p -> p.bar(2, 2, true), -5);
        Acts.done("bar(4, 2, true)", x, p -> p.bar(4, 2, true), 1);
        Acts.refused("bar(2, 4, true)", x, p -> p.bar(2, 4, true), -5);
        Acts.done("bar(2, 0, true)", x, p -> p.bar(2, 0, true), 3);
        Acts.done("bar(2, 2, false)", x, p -> p.bar(2, 2, false), 2);
        Acts.done("bar(0, 2, false)", x, p -> p.bar(0, 2, false), 0);
        Acts.refused("bar(2, 0, false)", x, p -> p.bar(2, 0, false), -5);
        Acts.done("bar(2, 4, false)", x, p -> p.bar(2, 4, false), 0);
    }

    private static void promise5() {
        Replay x = new Replay();
        int[][] wrong = {{0, 1}, {7, 1}, {1, -1}, {1, 16}, {-6, 3}, {Integer.MAX_VALUE, 0},
            {1, Integer.MIN_VALUE}};
        for (int[] w : wrong) {
            Acts.refused("addCrew(" + w[0] + ", " + w[1] + ")", x, p -> p.addCrew(w[0], w[1]), -2);
        }
        Acts.done("addCrew(1, 0)", x, p -> p.addCrew(1, 0), 0);
        Acts.done("addCrew(6, 15)", x, p -> p.addCrew(6, 15), 1);
        for (int i = 2; i < 5; i++) {
            Check.due("addCrew " + i, x.addCrew(i, i), i);
        }
        Acts.refused("the sixth crew", x, p -> p.addCrew(1, 1), -3);
        Acts.refused("a wrong sixth crew", x, p -> p.addCrew(1, 16), -2);
        Check.due("the people of 1", x.crew(1, 0), 6);
        Check.due("the skills of 1", x.crew(1, 1), 15);
        Check.due("the skills of 0", x.crew(0, 1), 0);
    }

    private static void promise6() {
        Replay x = new Replay();
        x.addAsset(10, 10);
        Acts.done("addTask(0, 0, 1, 0, 1, 0)", x, p -> p.addTask(0, 0, 1, 0, 1, 0), 0);
        Acts.done("addTask(0, 3, 6, 4, 48, 2000)", x, p -> p.addTask(0, 3, 6, 4, 48, 2000), 1);
        int[] first = {0, 0, 0, 1, 0, 1, 0, 8, -5, -5, 0, 1, -5};
        int[] second = {0, 0, 3, 6, 4, 48, 2000, 2102, -5, -5, 0, 1, -5};
        for (int what = 0; what <= 12; what++) {
            Check.due("task(0, " + what + ")", x.task(0, what), first[what]);
            Check.due("task(1, " + what + ")", x.task(1, what), second[what]);
        }
        for (int i = 2; i < 24; i++) {
            Check.due("addTask " + i, x.addTask(0, 0, 1, 0, 1, 0), i);
        }
        Acts.refused("the 25th task", x, p -> p.addTask(0, 0, 1, 0, 1, 0), -3);
        Acts.refused("a wrong 25th task", x, p -> p.addTask(0, 0, 1, 0, 49, 0), -2);
        Acts.refused("a 25th task of no asset", x, p -> p.addTask(1, 0, 1, 0, 1, 0), -1);
        x.cancel(3);
        Acts.refused("a cancelled task keeps its room", x, p -> p.addTask(0, 0, 1, 0, 1, 0), -3);
    }

    private static void promise6Errors() {
        Replay x = new Replay();
        Acts.refused("addTask without assets", x, p -> p.addTask(0, 0, 1, 0, 1, 0), -1);
        x.addAsset(10, 10);
        x.pass(40);
        Acts.refused("addTask(-1, ..)", x, p -> p.addTask(-1, 0, 1, 0, 1, 40), -1);
        Acts.refused("addTask(1, ..)", x, p -> p.addTask(1, 9, 9, 9, 99, 0), -1);
        int[][] wrong = {{-1, 1, 0, 1, 40}, {4, 1, 0, 1, 40}, {0, 0, 0, 1, 40}, {0, 7, 0, 1, 40},
            {0, 1, -1, 1, 40}, {0, 1, 5, 1, 40}, {0, 1, 0, 0, 40}, {0, 1, 0, 49, 40},
            {0, 1, 0, 1, 39}, {0, 1, 0, 1, 2001}, {0, 1, 0, 1, -1},
            {0, 1, 0, Integer.MAX_VALUE, 40}, {0, 1, 0, 1, Integer.MAX_VALUE}};
        for (int[] w : wrong) {
            Acts.refused("addTask(0, " + w[0] + ", " + w[1] + ", " + w[2] + ", " + w[3] + ", "
                    + w[4] + ")", x, p -> p.addTask(0, w[0], w[1], w[2], w[3], w[4]), -2);
        }
        Acts.done("a window from now on", x, p -> p.addTask(0, 0, 1, 0, 1, 40), 0);
    }

    private static void promise7And8() {
        Replay x = new Replay();
        x.addAsset(10, 10);
        x.addAsset(10, 10);
        x.addCrew(6, 15);
        x.addTask(1, 0, 1, 0, 1, 0);
        Acts.refused("run(2)", x, p -> p.run(2), -1);
        Acts.refused("run(-1)", x, p -> p.run(-1), -1);
        Acts.refused("stop(2)", x, p -> p.stop(2), -1);
        Acts.refused("stop(-1)", x, p -> p.stop(-1), -1);
        Acts.refused("stop(0) of one that stands", x, p -> p.stop(0), -5);
        Acts.done("run(0)", x, p -> p.run(0), 1);
        Acts.done("run(1)", x, p -> p.run(1), 2);
        Acts.refused("run(1) again", x, p -> p.run(1), -5);
        Acts.done("stop(1)", x, p -> p.stop(1), 1);
        Acts.done("hang(0, 0)", x, p -> p.hang(0, 0), 1);
        Acts.refused("run(1) under a tag", x, p -> p.run(1), -4);
        Acts.refused("stop(1) under a tag", x, p -> p.stop(1), -5);
        x.begin(0);
        Acts.refused("run(1) in work", x, p -> p.run(1), -4);
        x.pass(1);
        Acts.refused("run(1) under the tag of a finished task", x, p -> p.run(1), -4);
        x.lift(0, 0);
        Acts.done("run(1) when it is lifted", x, p -> p.run(1), 2);
        Acts.done("stop(0)", x, p -> p.stop(0), 1);
        Acts.done("stop(1) again", x, p -> p.stop(1), 0);
    }
}
