/**
 * Long runs of calls on the program and on the model: all answers must be the same. The calls come
 * from a row of numbers that is the same each time.
 */
public final class ModelTest {
    private static final int RUNS = 3000;
    /** "An object is used for at most 512 calls"; one step of a run makes fewer than 16. */
    private static final int CALLS = 512 - 16;
    private static final int LAST_LOOK = 17 + 24 * 13;
    private static final String SIGNS = "hlbrspc;0123456789";

    private final TagWindows x = new TagWindows();
    private final Model m = new Model();
    private final String name;
    private long seed;
    private int calls = 0;

    private ModelTest(int run) {
        seed = 7919L * run + 17;
        name = "run " + run + ", ";
    }

    public static void main(String[] args) {
        for (int run = 0; run < RUNS; run++) {
            new ModelTest(run).go(run);
        }
        Check.end();
    }

    /** Half of the runs are as long as can be, half of them end with a look at all there is. */
    private void go(int run) {
        int[] weights = weights(run % 4);
        boolean looks = run / 4 % 2 == 0;
        int most = looks ? CALLS - LAST_LOOK : CALLS;
        int beginning = 12 + below(20);
        for (int i = 0; i < CALLS && calls < most; i++) {
            oneCall(i < beginning ? below(6) : weights[below(weights.length)]);
        }
        if (looks) {
            lookAtAll();
        }
        Check.due(name + "calls", calls <= 512 ? 1 : 0, 1);
    }

    private void lookAtAll() {
        for (int what = 0; what <= 16; what++) {
            due("count", x.count(what), m.count(what), what);
        }
        for (int t = 0; t < 24; t++) {
            for (int what = 0; what <= 12; what++) {
                due("task", x.task(t, what), m.task(t, what), t, what);
            }
        }
    }

    /** Some runs build much, some work much, some read texts much, some go back much. */
    private static int[] weights(int sort) {
        switch (sort) {
            case 0: return new int[] {0, 1, 2, 3, 4, 4, 5, 6, 6, 7, 8, 8, 8, 9, 9, 9, 10, 10, 11, 12, 12,
                16, 17, 18, 19, 20, 21, 22, 23, 24, 25, 26};
            case 1: return new int[] {4, 7, 6, 8, 8, 8, 8, 9, 9, 9, 10, 10, 10, 12, 12, 12, 23, 25, 26};
            case 2: return new int[] {4, 13, 13, 13, 13, 13, 14, 15, 15, 15, 12, 8, 9, 23, 25, 26, 24};
            default: return new int[] {0, 1, 2, 3, 4, 4, 6, 7, 8, 9, 10, 12, 11, 16, 16, 16, 17, 18, 18,
                23, 25, 26, 24};
        }
    }

    private int below(int bound) {
        seed = seed * 6364136223846793005L + 1442695040888963407L;
        return (int) ((seed >>> 33) % bound);
    }

    /** Mostly a number from least to most, seldom one about its edges or far away. */
    private int number(int least, int most) {
        int way = below(40);
        if (way == 0) {
            return least - 1;
        }
        if (way == 1) {
            return most + 1;
        }
        if (way == 2) {
            int[] far = {Integer.MIN_VALUE, Integer.MAX_VALUE, -7, 1000000};
            return far[below(far.length)];
        }
        return least + below(most - least + 1);
    }

    private int anAsset() {
        return number(0, Math.max(0, m.count(1) - 1));
    }

    private int aCrew() {
        return number(0, Math.max(0, m.count(3) - 1));
    }

    private int aTask() {
        return number(0, Math.max(0, m.count(4) - 1));
    }

    private int aTaskIn(int state) {
        int first = Math.max(0, aTask());
        for (int i = 0; i < 24; i++) {
            if (m.task((first % 24 + i) % 24, 1) == state) {
                return (first % 24 + i) % 24;
            }
        }
        return aTask();
    }

    private void oneCall(int which) {
        if (which < 13) {
            anAct(which);
        } else if (which < 19) {
            aTextOrHistory(which);
        } else {
            aQuestion(which);
        }
    }

    private void anAct(int which) {
        int a = anAsset();
        int b = anAsset();
        int c = aCrew();
        int is = below(4) == 0 ? 0 : 1;
        switch (which) {
            case 0: {
                int rate = number(1, 100);
                int wear = number(1, 200);
                due("addAsset", x.addAsset(rate, wear), m.act("addAsset", rate, wear), rate, wear);
                break;
            }
            case 1: due("link", x.link(a, b, is == 1), m.act("link", a, b, is), a, b, is); break;
            case 2: {
                int kind = number(0, 4);
                int other = number(0, 4);
                due("bar", x.bar(kind, other, is == 1), m.act("bar", kind, other, is), kind, other, is);
                break;
            }
            case 3: {
                int people = number(1, 6);
                int skills = number(0, 15) | number(0, 15);
                due("addCrew", x.addCrew(people, skills), m.act("addCrew", people, skills), people, skills);
                break;
            }
            case 4: case 5: addTask(a); break;
            case 6: due("run", x.run(a), m.act("run", a), a); break;
            case 7: due("stop", x.stop(a), m.act("stop", a), a); break;
            case 8: {
                int t = aTaskIn(0);
                int crew = below(2) == 0 ? c : m.crewFor(t);
                due("hang", x.hang(t, crew), m.act("hang", t, crew), t, crew);
                break;
            }
            case 9: {
                int t = aTaskIn(1);
                due("begin", x.begin(t), m.act("begin", t), t);
                break;
            }
            case 10: lift(); break;
            case 11: {
                int t = aTask();
                due("cancel", x.cancel(t), m.act("cancel", t), t);
                break;
            }
            default: {
                int hours = below(3) == 0 ? number(1, 48) : number(1, 6);
                due("pass", x.pass(hours), m.act("pass", hours), hours);
                break;
            }
        }
    }

    private void addTask(int asset) {
        int skill = number(0, 3);
        int people = number(1, 3);
        int kind = number(0, 4);
        int hours = below(5) == 0 ? number(1, 48) : number(1, 6);
        int from = below(8) == 0 ? number(m.count(0), 2000) : m.count(0) + below(8);
        due("addTask", x.addTask(asset, skill, people, kind, hours, from),
                m.act("addTask", asset, skill, people, kind, hours, from),
                asset, skill, people, kind, hours, from);
    }

    private void lift() {
        int t = aTaskIn(below(2) == 0 ? 3 : 1);
        if (below(3) == 0) {
            t = m.tagAt(anAsset(), 0);
        }
        int crew = below(4) == 0 ? aCrew() : m.task(t, 8);
        due("lift", x.lift(t, crew), m.act("lift", t, crew), t, crew);
    }

    private void aTextOrHistory(int which) {
        switch (which) {
            case 13: typeSome(); break;
            case 14: due("clearText", x.clearText(), m.clearText()); break;
            case 15:
                due("perform", x.perform(), m.act("perform"));
                if (below(3) > 0) {
                    due("clearText", x.clearText(), m.clearText());
                }
                break;
            case 16: due("undo", x.undo(), m.undo()); break;
            case 17: due("keep", x.keep(), m.keep()); break;
            default: due("restore", x.restore(), m.act("restore")); break;
        }
    }

    private void typeSome() {
        if (below(6) == 0) {
            char c = below(9) == 0 ? (char) below(65536) : SIGNS.charAt(below(SIGNS.length()));
            due("type", x.type(c), m.type(c), c);
            return;
        }
        String order = (m.count(16) > 0 ? ";" : "") + anOrder();
        for (int i = 0; i < order.length(); i++) {
            char c = order.charAt(i);
            due("type", x.type(c), m.type(c), c);
        }
    }

    private String anOrder() {
        int t = aTaskIn(below(4));
        switch (below(6)) {
            case 0: return "h" + t + "c" + aCrew();
            case 1: return "l" + t + "c" + m.task(t, 8);
            case 2: return "b" + t;
            case 3: return "r" + anAsset();
            case 4: return "s" + anAsset();
            default: return "p" + number(1, 12);
        }
    }

    private void aQuestion(int which) {
        int a = anAsset();
        int t = aTask();
        switch (which) {
            case 19: {
                int what = number(0, 2);
                dueFloat("real", x.real(a, what), m.real(a, what), a, what);
                break;
            }
            case 20: {
                int hours = number(0, 200);
                dueFloat("healthIn", x.healthIn(a, hours), m.healthIn(a, hours), a, hours);
                break;
            }
            case 21: {
                int percent = number(1, 100);
                due("hoursTo", x.hoursTo(a, percent), m.hoursTo(a, percent), a, percent);
                break;
            }
            case 22: {
                int place = number(0, 6);
                due("tagAt", x.tagAt(a, place), m.tagAt(a, place), a, place);
                break;
            }
            case 23: {
                int what = number(0, 7);
                due("asset", x.asset(a, what), m.asset(a, what), a, what);
                break;
            }
            case 24: {
                int c = aCrew();
                int what = number(0, 4);
                due("crew", x.crew(c, what), m.crew(c, what), c, what);
                due("crewFor", x.crewFor(t), m.crewFor(t), t);
                break;
            }
            case 25: {
                int what = number(0, 12);
                due("task", x.task(t, what), m.task(t, what), t, what);
                break;
            }
            default: {
                int what = number(0, 16);
                due("count", x.count(what), m.count(what), what);
                break;
            }
        }
    }

    private void due(String call, int got, int want, int... args) {
        calls++;
        Check.due(got == want ? call : name + call + java.util.Arrays.toString(args), got, want);
    }

    private void dueFloat(String call, float got, float want, int... args) {
        calls++;
        Check.dueFloat(name + call + java.util.Arrays.toString(args), got, want);
    }
}
