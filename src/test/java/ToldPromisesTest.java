/** Promises 20 to 28: what is told. */
public final class ToldPromisesTest {
    private static final int[] FAR = {-1, Integer.MIN_VALUE, Integer.MAX_VALUE, 100};

    public static void main(String[] args) {
        promise20();
        promise21();
        promise22();
        promise23();
        promise24();
        promise25();
        promise26();
        promise26Reasons();
        promise27();
        promise28();
        Check.end();
    }

    private static void promise20() {
        Replay x = Plants.plain();
        x.run(1);
        x.pass(1);
        Check.dueFloat("health", x.real(1, 0), 1.0f - 1.0f * 0.05f);
        Check.dueFloat("output", x.real(1, 1), 20.0f);
        Check.dueFloat("wear", x.real(1, 2), 0.05f);
        for (int far : FAR) {
            Check.dueFloat("real(" + far + ", 0)", x.real(far, 0), Float.NaN);
            Check.dueFloat("real(0, " + far + ")", x.real(0, far), Float.NaN);
        }
        Check.dueFloat("real(2, 0)", x.real(2, 0), Float.NaN);
        Check.dueFloat("real(0, 3)", x.real(0, 3), Float.NaN);
    }

    private static void promise21() {
        Replay x = Plants.plain();
        x.run(0);
        x.pass(2);
        Check.dueFloat("healthIn(0, 0)", x.healthIn(0, 0), x.real(0, 0));
        float worn = x.real(0, 0);
        for (int i = 0; i < 10; i++) {
            worn = worn - worn * 0.1f;
        }
        Check.dueFloat("healthIn(0, 10)", x.healthIn(0, 10), worn);
        Check.dueFloat("healthIn(0, 200)", x.healthIn(0, 200), 0.01f);
        Check.dueFloat("of one that stands", x.healthIn(1, 1), 0.95f);
        float[] told = new float[49];
        for (int i = 0; i <= 48; i++) {
            told[i] = x.healthIn(0, i);
        }
        for (int i = 1; i <= 48; i++) {
            x.pass(1);
            Check.dueFloat("as foretold for " + i, x.real(0, 0), told[i]);
        }
        for (int far : FAR) {
            Check.dueFloat("healthIn(" + far + ", 0)", x.healthIn(far, 0), Float.NaN);
        }
        Check.dueFloat("healthIn(2, 0)", x.healthIn(2, 0), Float.NaN);
        Check.dueFloat("healthIn(0, -1)", x.healthIn(0, -1), Float.NaN);
        Check.dueFloat("healthIn(0, 201)", x.healthIn(0, 201), Float.NaN);
        Check.dueFloat("healthIn(0, max)", x.healthIn(0, Integer.MAX_VALUE), Float.NaN);
    }

    private static void promise22() {
        Replay x = Plants.plain();
        x.addAsset(1, 200);
        x.addAsset(1, 1);
        Check.due("not less than 1 at once", x.hoursTo(0, 100), 1);
        Check.due("0.9f is not less than 90 / 100.0f", x.hoursTo(0, 90), 2);
        Check.due("hoursTo(0, 50)", x.hoursTo(0, 50), 7);
        Check.due("hoursTo(1, 50)", x.hoursTo(1, 50), 14);
        Check.due("never less than the least health", x.hoursTo(2, 1), -5);
        Check.due("hoursTo(2, 2)", x.hoursTo(2, 2), 18);
        Check.due("wear 1: 0.82 within 200 hours", x.hoursTo(3, 82), 199);
        Check.due("wear 1: 0.81 is not", x.hoursTo(3, 81), -5);
        x.run(0);
        x.pass(8);
        Check.due("it is so now", x.hoursTo(0, 50), 0);
        Check.due("of one that runs, from now on", x.hoursTo(0, 20), 8);
        for (int far : FAR) {
            Check.due("hoursTo(" + far + ", 0)", x.hoursTo(far, 0), -1);
        }
        Check.due("hoursTo(4, 50)", x.hoursTo(4, 50), -1);
        Check.due("hoursTo(0, 0)", x.hoursTo(0, 0), -2);
        Check.due("hoursTo(0, 101)", x.hoursTo(0, 101), -2);
        Check.due("hoursTo(0, min)", x.hoursTo(0, Integer.MIN_VALUE), -2);
        theFewestHoursAreTold();
    }

    private static void theFewestHoursAreTold() {
        for (int wear = 1; wear <= 200; wear++) {
            Replay x = new Replay();
            x.addAsset(1, wear);
            float[] healths = new float[201];
            for (int hours = 0; hours <= 200; hours++) {
                healths[hours] = x.healthIn(0, hours);
            }
            for (int percent = 1; percent <= 100; percent++) {
                Check.due("hoursTo of wear " + wear + ", " + percent, x.hoursTo(0, percent),
                        hoursUntil(healths, percent / 100.0f));
            }
        }
    }

    private static int hoursUntil(float[] healths, float bound) {
        for (int hours = 0; hours <= 200; hours++) {
            if (healths[hours] < bound) {
                return hours;
            }
        }
        return -5;
    }

    private static void promise23() {
        Replay x = Plants.plain();
        x.addAsset(7, 30);
        x.link(0, 2, true);
        for (int i = 0; i < 7; i++) {
            x.addTask(i == 6 ? 1 : 0, 0, 1, 0, 1, 0);
        }
        x.cancel(0);
        x.hang(1, 0);
        x.begin(1);
        x.hang(2, 0);
        x.begin(2);
        x.pass(1);
        x.lift(2, 0);
        x.hang(3, 0);
        x.hang(4, 0);
        x.begin(4);
        x.run(2);
        int[] first = {0, 3, 4, 4, 4, 1, 1000, 0};
        int[] second = {0, 0, -5, 0, 1, 0, 1000, 0};
        for (int what = 0; what <= 7; what++) {
            Check.due("asset(0, " + what + ")", x.asset(0, what), first[what]);
            Check.due("asset(1, " + what + ")", x.asset(1, what), second[what]);
        }
        Check.due("one that runs", x.asset(2, 0), 1);
        x.pass(2);
        Check.due("(int) (0.9409 * 1000)", x.asset(2, 6), 940);
        Check.due("(int) 13.79", x.asset(2, 7), 13);
        for (int far : FAR) {
            Check.due("asset(" + far + ", 9)", x.asset(far, 9), -1);
            Check.due("asset(0, " + far + ")", x.asset(0, far), -2);
        }
        Check.due("asset(3, 0)", x.asset(3, 0), -1);
        Check.due("asset(0, 8)", x.asset(0, 8), -2);
        x.pass(48);
        Check.due("a missed one is not counted", x.asset(1, 4), 1);
        x.pass(40);
        Check.due("when it is missed", x.task(6, 1), 5);
        Check.due("then", x.asset(1, 4), 0);
    }

    private static void promise24() {
        Replay x = Plants.plain();
        for (int i = 0; i < 8; i++) {
            x.addTask(i % 2, 0, 1, 0, 1, 0);
        }
        int[] order = {4, 1, 0, 6, 3};
        for (int t : order) {
            x.hang(t, 0);
        }
        int[] first = {6, 0, 4, -5, -5};
        for (int place = 0; place < 5; place++) {
            Check.due("tagAt(0, " + place + ")", x.tagAt(0, place), first[place]);
        }
        Check.due("tagAt(1, 0)", x.tagAt(1, 0), 3);
        Check.due("tagAt(1, 1)", x.tagAt(1, 1), 1);
        Check.due("tagAt(1, 2)", x.tagAt(1, 2), -5);
        x.lift(6, 0);
        Check.due("tagAt(0, 0) then", x.tagAt(0, 0), 0);
        x.hang(2, 0);
        Check.due("tagAt(0, 0) with a new one", x.tagAt(0, 0), 2);
        Check.due("tagAt(0, 1) with a new one", x.tagAt(0, 1), 0);
        Check.due("tagAt(0, -1)", x.tagAt(0, -1), -2);
        Check.due("tagAt(0, min)", x.tagAt(0, Integer.MIN_VALUE), -2);
        Check.due("tagAt(0, max)", x.tagAt(0, Integer.MAX_VALUE), -5);
        for (int far : FAR) {
            Check.due("tagAt(" + far + ", -1)", x.tagAt(far, -1), -1);
        }
        Check.due("tagAt(2, 0)", x.tagAt(2, 0), -1);
    }

    private static void promise25() {
        Replay x = Plants.plain();
        int[] people = {3, 1, 1, 2, 1};
        for (int i = 0; i < 5; i++) {
            x.addTask(i % 2, 1, people[i], 0, i + 1, 0);
        }
        x.hang(0, 0);
        x.begin(0);
        x.hang(1, 0);
        x.begin(1);
        x.hang(2, 0);
        x.hang(3, 1);
        told(x, 0, 6, 15, 5, 3, 0);
        told(x, 1, 2, 2, 2, 1, 0);
        x.pass(1);
        told(x, 0, 6, 15, 5, 3, 0);
        x.lift(2, 0);
        x.lift(0, 0);
        told(x, 0, 6, 15, 1, 1, 1);
        x.lift(3, 1);
        told(x, 1, 2, 2, 0, 0, 0);
        x.pass(1);
        x.lift(1, 0);
        told(x, 0, 6, 15, 0, 0, 2);
        for (int far : FAR) {
            Check.due("crew(" + far + ", 9)", x.crew(far, 9), -1);
            Check.due("crew(0, " + far + ")", x.crew(0, far), -2);
        }
        Check.due("crew(2, 0)", x.crew(2, 0), -1);
        Check.due("crew(0, 5)", x.crew(0, 5), -2);
    }

    private static void told(Replay x, int crew, int... want) {
        for (int what = 0; what <= 4; what++) {
            Check.due("crew(" + crew + ", " + what + ")", x.crew(crew, what), want[what]);
        }
    }

    private static void promise26() {
        Replay x = Plants.plain();
        x.addTask(1, 3, 4, 2, 5, 6);
        taskTells(x, 1, 0, 3, 4, 2, 5, 6, 22, -5, -5, 0, 1, -5);
        x.hang(0, 0);
        taskTells(x, 1, 1, 3, 4, 2, 5, 6, 22, 0, -5, 0, 2, -5);
        x.lift(0, 0);
        taskTells(x, 1, 0, 3, 4, 2, 5, 6, 22, -5, -5, 0, 1, -5);
        x.pass(18);
        taskTells(x, 1, 0, 3, 4, 2, 5, 30, 46, -5, -5, 1, 1, -5);
        x.hang(0, 0);
        x.pass(12);
        taskTells(x, 1, 1, 3, 4, 2, 5, 30, 46, 0, -5, 1, 0, -5);
        x.begin(0);
        x.pass(2);
        taskTells(x, 1, 2, 3, 4, 2, 5, 30, 46, 0, 3, 1, 1, -5);
        x.pass(3);
        taskTells(x, 1, 3, 3, 4, 2, 5, 30, 46, 0, -5, 1, 1, -5);
        x.lift(0, 0);
        taskTells(x, 1, 4, 3, 4, 2, 5, 30, 46, 0, -5, 1, 1, -5);
        for (int far : FAR) {
            Check.due("task(" + far + ", 99)", x.task(far, 99), -1);
            Check.due("task(0, " + far + ")", x.task(0, far), -2);
        }
        Check.due("task(1, 0)", x.task(1, 0), -1);
        Check.due("task(0, 13)", x.task(0, 13), -2);
    }

    private static void taskTells(Replay x, int... want) {
        for (int what = 0; what <= 12; what++) {
            Check.due("in the state " + x.task(0, 1) + " task(0, " + what + ")", x.task(0, what),
                    want[what]);
        }
    }

    private static void promise26Reasons() {
        Replay x = Plants.plain();
        x.bar(0, 0, true);
        x.addTask(0, 0, 1, 0, 2, 0);
        x.addTask(0, 0, 1, 0, 2, 0);
        x.addTask(0, 0, 1, 0, 2, 5);
        x.addTask(0, 0, 1, 0, 2, 0);
        x.addTask(0, 0, 1, 0, 2, 0);
        x.hang(3, 0);
        x.hang(1, 0);
        x.hang(2, 0);
        Check.due("reason 2 ahead of 4", x.task(2, 11), 2);
        Check.due("begin(3)", x.begin(3), 2);
        x.cancel(4);
        Check.due("reason 1 ahead of 4", x.task(0, 11), 1);
        Check.due("what waits is barred", x.task(0, 12), 3);
        Check.due("reason 4", x.task(1, 11), 4);
        Check.due("what hangs is barred", x.task(1, 12), 3);
        Check.due("reason 2 though barred", x.task(2, 11), 2);
        Check.due("it is barred", x.task(2, 12), 3);
        Check.due("what is in work is not", x.task(3, 12), -5);
        Check.due("what is in work cannot begin", x.task(3, 11), 1);
        Check.due("what is cancelled is barred", x.task(4, 12), 3);
        x.pass(2);
        Check.due("what is finished bars none", x.task(1, 12), -5);
        Check.due("no reason then", x.task(1, 11), 0);
        x.begin(1);
        Check.due("what is finished is barred", x.task(3, 12), 1);
        lowestBarrier();
    }

    private static void lowestBarrier() {
        Replay x = Plants.plain();
        x.link(0, 1, true);
        x.addTask(0, 0, 1, 0, 9, 0);
        x.addTask(0, 0, 1, 1, 9, 0);
        x.addTask(1, 0, 1, 2, 9, 0);
        x.bar(0, 1, true);
        x.bar(0, 2, true);
        x.hang(2, 0);
        x.begin(2);
        Check.due("barred by 2", x.task(0, 12), 2);
        x.hang(1, 0);
        x.begin(1);
        Check.due("barred by 1 and 2", x.task(0, 12), 1);
        x.bar(1, 0, false);
        Check.due("barred by 2 again", x.task(0, 12), 2);
    }

    private static void promise27() {
        Replay x = new Replay();
        x.addAsset(1, 1);
        x.addTask(0, 2, 3, 0, 1, 0);
        Check.due("no crew at all", x.crewFor(0), -5);
        x.addCrew(6, 11);
        x.addCrew(2, 15);
        Check.due("no skill, too few people", x.crewFor(0), -5);
        x.addCrew(3, 4);
        x.addCrew(6, 15);
        Check.due("the first that can", x.crewFor(0), 2);
        x.run(0);
        Check.due("whether its asset runs does not matter", x.crewFor(0), 2);
        x.stop(0);
        x.addTask(0, 2, 1, 0, 1, 0);
        x.hang(1, 2);
        Check.due("one of three is busy", x.crewFor(0), 3);
        x.hang(0, 3);
        Check.due("what hangs", x.crewFor(0), -5);
        x.lift(0, 3);
        x.lift(1, 2);
        Check.due("what waits again", x.crewFor(0), 2);
        x.cancel(0);
        Check.due("what is cancelled", x.crewFor(0), -5);
        for (int far : FAR) {
            Check.due("crewFor(" + far + ")", x.crewFor(far), -1);
        }
        Check.due("crewFor(2)", x.crewFor(2), -1);
        allRoomsTaken();
    }

    private static void allRoomsTaken() {
        Replay x = new Replay();
        for (int i = 0; i < 8; i++) {
            x.addAsset(i + 1, 1);
            x.run(i);
        }
        for (int i = 0; i < 5; i++) {
            x.addCrew(6, i == 0 ? 8 : 2);
        }
        for (int i = 0; i < 24; i++) {
            x.addTask(i % 8, i == 23 ? 3 : 2, 1, 0, 1, 0);
        }
        Check.due("none of five crews", x.crewFor(22), -5);
        Check.due("the crew 0 of five", x.crewFor(23), 0);
        Check.due("no tag among 24 tasks", x.tagAt(7, 0), -5);
        x.pass(1);
        Check.dueFloat("the output of the last one", x.real(7, 1), 8.0f);
        x.stop(7);
        x.hang(23, 0);
        Check.due("the tag of the last one", x.tagAt(7, 0), 23);
        Check.due("no other", x.tagAt(7, 1), -5);
        Check.due("begin(23)", x.begin(23), 2);
        Check.due("it is finished", x.pass(48), 1);
        Check.due("people that are busy", x.count(14), 1);
        Check.due("people of the crew", x.crew(0, 2), 1);
        Check.due("its tasks", x.crew(0, 3), 1);
        Check.due("tags", x.count(12), 1);
        Check.due("slips of 23 tasks", x.count(13), 46);
        Check.due("all that runs", x.count(2), 7);
    }

    private static void promise28() {
        Replay x = Plants.plain();
        x.run(1);
        int[] people = {1, 1, 1, 1, 1, 2, 3};
        for (int i = 0; i < 7; i++) {
            x.addTask(0, 0, people[i], 0, i == 6 ? 20 : 1, 0);
        }
        x.cancel(3);
        x.hang(0, 0);
        x.begin(0);
        x.hang(1, 0);
        x.begin(1);
        x.pass(8);
        x.lift(1, 0);
        x.hang(6, 0);
        x.begin(6);
        x.hang(5, 0);
        Acts.type(x, "p24");
        counts(x, 8, 2, 1, 2, 7, 2, 1, 1, 1, 1, 0, 1, 3, 3, 6, 4, 3);
        for (int i = 0; i < 3; i++) {
            x.perform();
        }
        counts(x, 80, 2, 1, 2, 7, 0, 1, 0, 2, 1, 2, 1, 3, 10, 6, 4, 3);
        x.undo();
        counts(x, 56, 2, 1, 2, 7, 2, 1, 0, 2, 1, 0, 1, 3, 9, 6, 3, 3);
        for (int far : FAR) {
            Check.due("count(" + far + ")", x.count(far), -2);
        }
        Check.due("count(17)", x.count(17), -2);
    }

    private static void counts(Replay x, int... want) {
        for (int what = 0; what <= 16; what++) {
            Check.due("count(" + what + ")", x.count(what), want[what]);
        }
    }
}
