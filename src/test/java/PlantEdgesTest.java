/**
 * Promises 1 to 8, edge by edge: each sentence of the document that names a boundary case has a
 * test of its own, which quotes it.
 */
public final class PlantEdgesTest {
    private static final int UNKNOWN = TagWindows.UNKNOWN;
    private static final int BAD_VALUE = TagWindows.BAD_VALUE;
    private static final int FULL = TagWindows.FULL;
    private static final int NOT_POSSIBLE = TagWindows.NOT_POSSIBLE;
    private static final int NONE = TagWindows.NONE;

    public static void main(String[] args) {
        aNewObjectHasNothing();
        aNewObjectHasNoTextHistoryOrSnapshot();
        twoObjectsShareNothing();
        rateOfAnAsset();
        wearOfAnAsset();
        atMostEightAssets();
        aBadAssetComesAheadOfFull();
        anAssetAtFirst();
        linkOfUnknownAssets();
        linkOfAnAssetToItself();
        linkOfUnknownAssetsComesAheadOfTheSame();
        linkThatIsSoAlready();
        linksOfNoneAndOfAll();
        linkHoldsBothWays();
        barOfKindsOutside();
        barOfTheLeastAndGreatestKind();
        barOfAKindWithItself();
        barThatIsSoAlready();
        barsOfNoneAndOfAll();
        peopleOfACrew();
        skillsOfACrew();
        atMostFiveCrews();
        aBadCrewComesAheadOfFull();
        assetOfATask();
        skillOfATask();
        peopleOfATask();
        kindOfATask();
        hoursOfATask();
        windowFromThePresentHour();
        windowFromTheLastHour();
        windowOfATask();
        atMostTwentyFourTasks();
        errorsOfATaskInTheirOrder();
        runOfUnknownAssets();
        runUnderATag();
        runOfWhatRuns();
        runOfAll();
        stopOfUnknownAssets();
        stopOfWhatStands();
        stopOfTheLastOne();
        Check.end();
    }

    /** "Creates a plant without assets." "The hour is 0 at first". */
    private static void aNewObjectHasNothing() {
        Replay x = new Replay();
        for (int what = 0; what <= 14; what++) {
            int w = what;
            Acts.told("1 new: count(" + w + ")", x, p -> p.count(w), 0);
        }
        Acts.told("1 new: asset(0, 0)", x, p -> p.asset(0, 0), UNKNOWN);
        Acts.told("1 new: crew(0, 0)", x, p -> p.crew(0, 0), UNKNOWN);
        Acts.told("1 new: task(0, 0)", x, p -> p.task(0, 0), UNKNOWN);
        for (int kind = 0; kind <= 4; kind++) {
            for (int other = 0; other <= 4; other++) {
                int k = kind;
                int o = other;
                Acts.refused("1 new: bar(" + k + ", " + o + ", false)", x,
                        p -> p.bar(k, o, false), NONE);
            }
        }
    }

    /** "a text .. empty at first"; "There is one snapshot, empty at first"; no state is recorded. */
    private static void aNewObjectHasNoTextHistoryOrSnapshot() {
        Replay x = new Replay();
        Acts.told("1 new: count(15), states", x, p -> p.count(15), 0);
        Acts.told("1 new: count(16), characters", x, p -> p.count(16), 0);
        Acts.refused("1 new: undo()", x, p -> p.undo(), NONE);
        Acts.refused("1 new: restore()", x, p -> p.restore(), NONE);
        Acts.refused("1 new: clearText()", x, p -> p.clearText(), 0);
        Acts.refused("1 new: perform()", x, p -> p.perform(), -100);
    }

    private static void twoObjectsShareNothing() {
        Replay x = new Replay();
        String was = x.copy().whole();
        Replay other = Plants.allStates();
        other.keep();
        other.bar(0, 0, true);
        Acts.type(other, "p1");
        Check.due("1 another object", x.copy().whole(), was);
    }

    /** "rate: 1 to 100". */
    private static void rateOfAnAsset() {
        Acts.range("2 rate", Plants.small(), (p, v) -> p.addAsset(v, 7), 1, 100, 2, BAD_VALUE);
        for (int rate : new int[] {1, 100}) {
            Replay x = new Replay();
            x.addAsset(rate, 1);
            x.run(0);
            x.pass(1);
            Check.dueFloat("2 the output of rate " + rate, x.real(0, 1), (float) rate);
        }
    }

    /** "wear: 1 to 200, in thousandths"; "a wear (w / 1000.0f, where w is from 1 to 200)". */
    private static void wearOfAnAsset() {
        Acts.range("2 wear", Plants.small(), (p, v) -> p.addAsset(7, v), 1, 200, 2, BAD_VALUE);
        for (int wear = 1; wear <= 200; wear++) {
            Replay x = new Replay();
            x.addAsset(7, wear);
            Check.dueFloat("2 the wear of " + wear, x.real(0, 2), wear / 1000.0f);
        }
    }

    /** "There are at most 8 assets, numbered from 0." "FULL if there are 8". */
    private static void atMostEightAssets() {
        Replay x = new Replay();
        for (int i = 0; i < 8; i++) {
            Acts.done("2 asset " + i, x, p -> p.addAsset(1, 1), i);
        }
        Acts.refused("2 a ninth asset", x, p -> p.addAsset(1, 1), FULL);
        x.undo();
        Acts.done("2 the eighth asset behind undo()", x, p -> p.addAsset(100, 200), 7);
        Acts.refused("2 a ninth asset again", x, p -> p.addAsset(100, 200), FULL);
    }

    /** "Where several errors can apply, the order of the @return line is the order". */
    private static void aBadAssetComesAheadOfFull() {
        Acts.outside("2 rate of a ninth", Plants.full(), (p, v) -> p.addAsset(v, 1), 1, 100, BAD_VALUE);
        Acts.outside("2 wear of a ninth", Plants.full(), (p, v) -> p.addAsset(1, v), 1, 200, BAD_VALUE);
    }

    /** "a health (1.0f at first) and an output (0.0f at first). It stands (at first) or runs." */
    private static void anAssetAtFirst() {
        Replay x = new Replay();
        x.addAsset(50, 150);
        x.run(0);
        x.pass(5);
        x.addAsset(60, 160);
        Check.dueFloat("2 health at first", x.real(1, 0), 1.0f);
        Check.dueFloat("2 output at first", x.real(1, 1), 0.0f);
        Acts.told("2 it stands at first", x, p -> p.asset(1, 0), 0);
        Acts.told("2 no tag hangs at first", x, p -> p.asset(1, 1), 0);
        Acts.told("2 no link at first", x, p -> p.asset(1, 3), 0);
    }

    /** "UNKNOWN: There is no such asset, crew or task." */
    private static void linkOfUnknownAssets() {
        Acts.outside("3 link(v, 0, true)", Plants.small(), (p, v) -> p.link(v, 0, true), 0, 1, UNKNOWN);
        Acts.outside("3 link(0, v, true)", Plants.small(), (p, v) -> p.link(0, v, true), 0, 1, UNKNOWN);
        Acts.outside("3 link(v, 0, false)", Plants.small(), (p, v) -> p.link(v, 0, false), 0, 1, UNKNOWN);
        Acts.outside("3 link(0, v, false)", Plants.small(), (p, v) -> p.link(0, v, false), 0, 1, UNKNOWN);
        Acts.outside("3 link(v, 0, true) of 8", Plants.full(), (p, v) -> p.link(v, 0, true), 0, 7, UNKNOWN);
        Acts.outside("3 link(0, v, true) of 8", Plants.full(), (p, v) -> p.link(0, v, true), 0, 7, UNKNOWN);
        Acts.refused("3 link(0, 32, true)", Plants.small(), p -> p.link(0, 32, true), UNKNOWN);
    }

    /** "BAD_VALUE if both are the same". */
    private static void linkOfAnAssetToItself() {
        for (int asset = 0; asset <= 7; asset += 7) {
            int a = asset;
            Replay x = Plants.full();
            Acts.refused("3 link to itself", x, p -> p.link(a, a, true), BAD_VALUE);
            Acts.refused("3 no link to itself, which is so already", x, p -> p.link(a, a, false), BAD_VALUE);
        }
    }

    /** UNKNOWN stands ahead of BAD_VALUE. */
    private static void linkOfUnknownAssetsComesAheadOfTheSame() {
        Acts.refused("3 link(2, 2, true)", Plants.small(), p -> p.link(2, 2, true), UNKNOWN);
        Acts.refused("3 link(-1, -1, false)", Plants.small(), p -> p.link(-1, -1, false), UNKNOWN);
    }

    /** "NONE if it is so already". */
    private static void linkThatIsSoAlready() {
        Replay x = Plants.small();
        Acts.refused("3 not linked already", x, p -> p.link(0, 1, false), NONE);
        Acts.refused("3 not linked already, told from the other", x, p -> p.link(1, 0, false), NONE);
        Acts.done("3 linked", x, p -> p.link(0, 1, true), 1);
        Acts.refused("3 linked already", x, p -> p.link(0, 1, true), NONE);
        Acts.refused("3 linked already, told from the other", x, p -> p.link(1, 0, true), NONE);
        Acts.done("3 not linked any more", x, p -> p.link(1, 0, false), 0);
        Acts.refused("3 not linked any more already", x, p -> p.link(0, 1, false), NONE);
    }

    /** "Returns with how many assets the first one is linked then": from 0 to all the others. */
    private static void linksOfNoneAndOfAll() {
        for (int asset = 0; asset <= 7; asset += 7) {
            int a = asset;
            Replay x = Plants.full();
            for (int i = 1; i <= 7; i++) {
                int other = (a + i) % 8;
                Acts.done("3 the link " + i + " of " + a, x, p -> p.link(a, other, true), i);
            }
            Acts.told("3 all are linked", x, p -> p.asset(a, 3), 255 - (1 << a));
            Acts.act("3 the other one has one link", x, p -> p.link((a + 1) % 8, a, false), 0);
            for (int i = 1; i <= 7; i++) {
                int left = 7 - i;
                int other = (a + i) % 8;
                Acts.done("3 links left of " + a, x, p -> p.link(a, other, false), left);
            }
            Acts.told("3 none is linked", x, p -> p.asset(a, 3), 0);
        }
    }

    /** "Two assets can be linked": it holds for both, and for no other. */
    private static void linkHoldsBothWays() {
        Replay x = Plants.full();
        x.link(0, 7, true);
        for (int i = 0; i <= 7; i++) {
            int a = i;
            int want = a == 0 ? 128 : a == 7 ? 1 : 0;
            Acts.told("3 the links of " + a, x, p -> p.asset(a, 3), want);
        }
    }

    /** "kind: 0 to 4", "other: 0 to 4". */
    private static void barOfKindsOutside() {
        Replay x = Plants.small();
        Acts.outside("4 bar(v, 0, true)", x, (p, v) -> p.bar(v, 0, true), 0, 4, BAD_VALUE);
        Acts.outside("4 bar(0, v, true)", x, (p, v) -> p.bar(0, v, true), 0, 4, BAD_VALUE);
        Acts.outside("4 bar(v, v, true)", x, (p, v) -> p.bar(v, v, true), 0, 4, BAD_VALUE);
        Acts.outside("4 bar(v, 4, false), so already", x, (p, v) -> p.bar(v, 4, false), 0, 4, BAD_VALUE);
        Acts.outside("4 bar(4, v, false), so already", x, (p, v) -> p.bar(4, v, false), 0, 4, BAD_VALUE);
        Acts.refused("4 bar(0, 32, true)", x, p -> p.bar(0, 32, true), BAD_VALUE);
    }

    private static void barOfTheLeastAndGreatestKind() {
        for (int kind = 0; kind <= 4; kind++) {
            for (int other = 0; other <= 4; other++) {
                int k = kind;
                int o = other;
                Acts.act("4 bar(" + k + ", " + o + ", true)", Plants.small(), p -> p.bar(k, o, true), 1);
            }
        }
    }

    /** "other: 0 to 4 (the same one, too)"; it counts but once. */
    private static void barOfAKindWithItself() {
        for (int kind = 0; kind <= 4; kind++) {
            int k = kind;
            Replay x = Plants.small();
            Acts.done("4 a kind bars itself", x, p -> p.bar(k, k, true), 1);
            Acts.refused("4 it does so already", x, p -> p.bar(k, k, true), NONE);
            Acts.done("4 it does not any more", x, p -> p.bar(k, k, false), 0);
            Acts.refused("4 it does not already", x, p -> p.bar(k, k, false), NONE);
        }
    }

    /** "NONE if it is so already", told from either of both. */
    private static void barThatIsSoAlready() {
        Replay x = Plants.small();
        Acts.refused("4 not barred already", x, p -> p.bar(0, 4, false), NONE);
        Acts.done("4 barred", x, p -> p.bar(0, 4, true), 1);
        Acts.refused("4 barred already", x, p -> p.bar(0, 4, true), NONE);
        Acts.refused("4 barred already, told from the other", x, p -> p.bar(4, 0, true), NONE);
        Acts.refused("4 the least does not bar itself by that", x, p -> p.bar(0, 0, false), NONE);
        Acts.refused("4 the greatest does not bar itself by that", x, p -> p.bar(4, 4, false), NONE);
        Acts.done("4 not barred any more", x, p -> p.bar(4, 0, false), 0);
        Acts.refused("4 not barred already again", x, p -> p.bar(0, 4, false), NONE);
    }

    /** "Returns how many kinds bar the first one then": from 0 to 5. */
    private static void barsOfNoneAndOfAll() {
        for (int kind = 0; kind <= 4; kind += 4) {
            int k = kind;
            Replay x = Plants.small();
            for (int i = 0; i <= 4; i++) {
                int other = i;
                Acts.done("4 bars of " + k, x, p -> p.bar(k, other, true), i + 1);
            }
            Acts.act("4 bars of another", x, p -> p.bar(2, k, false), 0);
            for (int i = 0; i <= 4; i++) {
                int other = i;
                Acts.done("4 bars left of " + k, x, p -> p.bar(k, other, false), 4 - i);
            }
        }
    }

    /** "people: 1 to 6". */
    private static void peopleOfACrew() {
        Acts.range("5 people", Plants.small(), (p, v) -> p.addCrew(v, 5), 1, 6, 2, BAD_VALUE);
    }

    /** "skills: 0 to 15, as bits". */
    private static void skillsOfACrew() {
        Acts.range("5 skills", Plants.small(), (p, v) -> p.addCrew(3, v), 0, 15, 2, BAD_VALUE);
        for (int skills = 0; skills <= 15; skills++) {
            Replay x = new Replay();
            x.addCrew(1, skills);
            Check.due("5 the skills", x.crew(0, 1), skills);
        }
    }

    /** "There are at most 5 crews, numbered from 0"; "FULL if there are 5". */
    private static void atMostFiveCrews() {
        Replay x = new Replay();
        for (int i = 0; i < 5; i++) {
            Acts.done("5 crew " + i, x, p -> p.addCrew(1, 0), i);
        }
        Acts.refused("5 a sixth crew", x, p -> p.addCrew(1, 0), FULL);
        x.undo();
        Acts.done("5 the fifth crew behind undo()", x, p -> p.addCrew(6, 15), 4);
        Acts.refused("5 a sixth crew again", x, p -> p.addCrew(6, 15), FULL);
    }

    /** BAD_VALUE stands ahead of FULL. */
    private static void aBadCrewComesAheadOfFull() {
        Acts.outside("5 people of a sixth", Plants.full(), (p, v) -> p.addCrew(v, 1), 1, 6, BAD_VALUE);
        Acts.outside("5 skills of a sixth", Plants.full(), (p, v) -> p.addCrew(1, v), 0, 15, BAD_VALUE);
    }

    /** "asset: an asset". */
    private static void assetOfATask() {
        Replay x = Plants.small();
        Acts.range("6 asset", x, (p, v) -> p.addTask(v, 0, 1, 0, 1, 0), 0, 1, 0, UNKNOWN);
        x = new Replay();
        Acts.refused("6 asset of none", x, p -> p.addTask(0, 0, 1, 0, 1, 0), UNKNOWN);
        x = new Replay();
        for (int i = 0; i < 8; i++) {
            x.addAsset(1, 1);
        }
        Acts.range("6 asset of 8", x, (p, v) -> p.addTask(v, 0, 1, 0, 1, 0), 0, 7, 0, UNKNOWN);
    }

    /** "skill: 0 to 3". */
    private static void skillOfATask() {
        Acts.range("6 skill", Plants.small(), (p, v) -> p.addTask(1, v, 2, 2, 2, 2), 0, 3, 0, BAD_VALUE);
    }

    /** "people: 1 to 6". */
    private static void peopleOfATask() {
        Acts.range("6 people", Plants.small(), (p, v) -> p.addTask(1, 2, v, 2, 2, 2), 1, 6, 0, BAD_VALUE);
    }

    /** "kind: 0 to 4". */
    private static void kindOfATask() {
        Acts.range("6 kind", Plants.small(), (p, v) -> p.addTask(1, 2, 2, v, 2, 2), 0, 4, 0, BAD_VALUE);
    }

    /** "hours: 1 to 48". */
    private static void hoursOfATask() {
        Acts.range("6 hours", Plants.small(), (p, v) -> p.addTask(1, 2, 2, 2, v, 2), 1, 48, 0, BAD_VALUE);
    }

    /** "from: the hour at which its window begins: from the present one to 2000". */
    private static void windowFromThePresentHour() {
        Acts.range("6 from at 0", Plants.small(), (p, v) -> p.addTask(1, 2, 2, 2, 2, v), 0, 2000, 0,
                BAD_VALUE);
        Acts.range("6 from at 1", Plants.smallAt(1), (p, v) -> p.addTask(1, 2, 2, 2, 2, v), 1, 2000, 0,
                BAD_VALUE);
        Acts.range("6 from at 1000", Plants.smallAt(1000), (p, v) -> p.addTask(1, 2, 2, 2, 2, v), 1000,
                2000, 0, BAD_VALUE);
    }

    /** The same at the last hour, "at most 2000": the present one is the only one then. */
    private static void windowFromTheLastHour() {
        Acts.range("6 from at 1999", Plants.smallAt(1999), (p, v) -> p.addTask(1, 2, 2, 2, 2, v), 1999,
                2000, 0, BAD_VALUE);
        Acts.range("6 from at 2000", Plants.smallAt(2000), (p, v) -> p.addTask(1, 2, 2, 2, 2, v), 2000,
                2000, 0, BAD_VALUE);
    }

    /** "it begins at an hour, and ends 2 * hours + 6 hours later". */
    private static void windowOfATask() {
        int[][] windows = {{1, 0, 8}, {48, 0, 102}, {1, 2000, 2008}, {48, 2000, 2102}, {2, 7, 17}};
        for (int[] w : windows) {
            Replay x = Plants.small();
            x.addTask(0, 0, 1, 0, w[0], w[1]);
            Acts.told("6 the window begins", x, p -> p.task(0, 6), w[1]);
            Acts.told("6 the window ends", x, p -> p.task(0, 7), w[2]);
        }
    }

    /** "There are at most 24 tasks, numbered from 0"; "FULL if there are 24". */
    private static void atMostTwentyFourTasks() {
        Replay x = Plants.small();
        for (int i = 0; i < 24; i++) {
            Acts.done("6 task " + i, x, p -> p.addTask(0, 0, 1, 0, 1, 0), i);
        }
        Acts.refused("6 a 25th task", x, p -> p.addTask(0, 0, 1, 0, 1, 0), FULL);
        x.undo();
        Acts.done("6 the 24th task behind undo()", x, p -> p.addTask(1, 3, 6, 4, 48, 2000), 23);
        x.cancel(0);
        Acts.refused("6 a cancelled one keeps its room", x, p -> p.addTask(0, 0, 1, 0, 1, 0), FULL);
    }

    /** UNKNOWN, BAD_VALUE, FULL in this order. */
    private static void errorsOfATaskInTheirOrder() {
        Replay x = Plants.full();
        Acts.refused("6 all of three errors", x, p -> p.addTask(8, 4, 7, 5, 49, -1), UNKNOWN);
        Acts.refused("6 unknown and full", x, p -> p.addTask(8, 0, 1, 0, 1, 0), UNKNOWN);
        int[][] bad = {{4, 1, 0, 1, 0}, {0, 0, 0, 1, 0}, {0, 1, 5, 1, 0}, {0, 1, 0, 0, 0}, {0, 1, 0, 1, -1}};
        for (int[] b : bad) {
            Acts.refused("6 bad and full", x, p -> p.addTask(0, b[0], b[1], b[2], b[3], b[4]), BAD_VALUE);
            Acts.refused("6 unknown and bad", Plants.small(),
                    p -> p.addTask(2, b[0], b[1], b[2], b[3], b[4]), UNKNOWN);
        }
    }

    private static void runOfUnknownAssets() {
        Acts.range("7 run", Plants.small(), (p, v) -> p.run(v), 0, 1, 1, UNKNOWN);
        Acts.range("7 run of 8", Plants.full(), (p, v) -> p.run(v), 0, 7, 1, UNKNOWN);
        Acts.refused("7 run of none", new Replay(), p -> p.run(0), UNKNOWN);
    }

    /** "An asset with a tag does not run." "NOT_POSSIBLE if a tag hangs": in the states 1 to 3. */
    private static void runUnderATag() {
        int[] want = {1, NOT_POSSIBLE, NOT_POSSIBLE, NOT_POSSIBLE, 1, 1, 1, 1};
        for (int state = 0; state <= 7; state++) {
            int asset = state;
            String call = "7 run with a task in the state " + state;
            if (want[state] < 0) {
                Acts.refused(call, Plants.allStates(), p -> p.run(asset), want[state]);
            } else {
                Acts.act(call, Plants.allStates(), p -> p.run(asset), want[state]);
            }
        }
        Replay x = Plants.allStates();
        x.lift(1, 0);
        Acts.act("7 run when the tag is lifted", x, p -> p.run(1), 1);
    }

    /** "NONE if it runs already". */
    private static void runOfWhatRuns() {
        Replay x = Plants.small();
        Acts.done("7 run", x, p -> p.run(1), 1);
        Acts.refused("7 run again", x, p -> p.run(1), NONE);
        Acts.done("7 run the other", x, p -> p.run(0), 2);
        Acts.refused("7 run the first again", x, p -> p.run(1), NONE);
    }

    /** "Returns how many assets run then": from 1 to all 8. */
    private static void runOfAll() {
        Replay x = Plants.full();
        for (int i = 0; i < 8; i++) {
            int asset = 7 - i;
            Acts.done("7 run " + asset, x, p -> p.run(asset), i + 1);
        }
    }

    private static void stopOfUnknownAssets() {
        Replay x = Plants.small();
        x.run(0);
        x.run(1);
        Acts.range("8 stop", x, (p, v) -> p.stop(v), 0, 1, 1, UNKNOWN);
        Replay y = Plants.full();
        y.run(0);
        y.run(7);
        Acts.range("8 stop of 8", y, (p, v) -> p.stop(v), 0, 7, 1, UNKNOWN);
        Acts.refused("8 stop of none", new Replay(), p -> p.stop(0), UNKNOWN);
    }

    /** "NONE if it stands already". */
    private static void stopOfWhatStands() {
        Replay x = Plants.small();
        Acts.refused("8 stop of what stands at first", x, p -> p.stop(0), NONE);
        x.run(0);
        Acts.refused("8 stop of what stands beside one that runs", x, p -> p.stop(1), NONE);
        Acts.done("8 stop", x, p -> p.stop(0), 0);
        Acts.refused("8 stop again", x, p -> p.stop(0), NONE);
        for (int state = 1; state <= 3; state++) {
            int asset = state;
            Acts.refused("8 stop under a tag", Plants.allStates(), p -> p.stop(asset), NONE);
        }
    }

    /** "Returns how many assets run then": from all but one to 0. */
    private static void stopOfTheLastOne() {
        Replay x = Plants.full();
        for (int i = 0; i < 8; i++) {
            x.run(i);
        }
        for (int i = 0; i < 8; i++) {
            int asset = i;
            Acts.done("8 stop " + asset, x, p -> p.stop(asset), 7 - i);
        }
    }
}
