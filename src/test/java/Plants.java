/** Plants with which more than one test begins. */
final class Plants {
    private Plants() {
    }

    /** Two assets, a crew with all skills and six people, one with the skill 1 and two people. */
    static Replay plain() {
        Replay x = new Replay();
        x.addAsset(10, 100);
        x.addAsset(20, 50);
        x.addCrew(6, 15);
        x.addCrew(2, 2);
        return x;
    }

    /**
     * The same, with four states in the history, a snapshot of another state and a text, so that a
     * call that is refused could change each of them.
     */
    static Replay small() {
        Replay x = new Replay();
        x.addAsset(10, 100);
        x.keep();
        Acts.type(x, "r0;p2");
        x.addAsset(20, 50);
        x.addCrew(6, 15);
        x.addCrew(2, 2);
        return x;
    }

    /** As many assets, crews and tasks as there can be; the tasks wait, three for each asset. */
    static Replay full() {
        Replay x = new Replay();
        for (int i = 0; i < 8; i++) {
            x.addAsset(10 + i, 10 + i);
        }
        for (int i = 0; i < 5; i++) {
            x.addCrew(6, 15);
        }
        x.keep();
        for (int i = 0; i < 24; i++) {
            x.addTask(i % 8, i % 4, 1, i % 5, 1 + i, 100);
        }
        return x;
    }

    /**
     * At the hour 101 seven tasks, the task s in the state s, each for the asset s, of the kind s
     * (0 and 1 for the last two) and for s + 1 people (1 for the last one). The crew 0 hung the
     * tags of 1 and 3, the crew 1 that of 2, the crew 2 that of 4.
     */
    static Replay allStates() {
        Replay x = new Replay();
        for (int i = 0; i < 8; i++) {
            x.addAsset(10, 100);
        }
        for (int i = 0; i < 3; i++) {
            x.addCrew(6, 15);
        }
        for (int s = 0; s <= 6; s++) {
            x.addTask(s, s % 4, s == 6 ? 1 : s + 1, s % 5, s == 2 ? 10 : 1, s == 5 ? 0 : 100);
        }
        x.pass(48);
        x.pass(48);
        x.pass(4);
        x.hang(3, 0);
        x.hang(4, 2);
        x.begin(3);
        x.begin(4);
        x.pass(1);
        x.lift(4, 2);
        x.cancel(6);
        x.hang(2, 1);
        x.begin(2);
        x.hang(1, 0);
        return x;
    }

    /** The small plant at an hour from 0 to 2000. */
    static Replay smallAt(int hour) {
        Replay x = small();
        passTo(x, hour);
        return x;
    }

    /** Lets the hours pass up to that one; a program that refuses them ends the test. */
    static void passTo(Replay x, int hour) {
        while (x.count(0) < hour) {
            int was = x.count(0);
            x.pass(Math.min(48, hour - was));
            if (x.count(0) <= was) {
                throw new IllegalStateException("no hours pass from " + was + " to " + hour);
            }
        }
    }
}
