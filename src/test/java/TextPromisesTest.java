import java.util.ArrayList;
import java.util.List;

/** Promises 14 to 19: texts of orders, undo and the snapshot. */
public final class TextPromisesTest {
    public static void main(String[] args) {
        promise14And15();
        promise16Faults();
        oldCharactersAreGone();
        promise16Orders();
        promise16Errors();
        promise16FullText();
        promise17();
        promise18And19();
        Check.end();
    }

    private static void promise14And15() {
        Replay x = Plants.plain();
        int states = x.count(15);
        Check.due("clearText() of an empty text", x.clearText(), 0);
        char[] any = {'h', ' ', (char) 0, (char) 255, (char) 256, (char) 65535, (char) 10};
        for (int i = 0; i < 60; i++) {
            Check.due("type", x.type(any[i % any.length]), i + 1);
            Check.due("count(16)", x.count(16), i + 1);
        }
        Acts.refused("type the 61st", x, p -> p.type('x'), -3);
        Check.due("typing is no act", x.count(15), states);
        Check.due("perform() of it", x.perform(), -101);
        Check.due("clearText()", x.clearText(), 60);
        Check.due("count(16) then", x.count(16), 0);
        Check.due("clearText() again", x.clearText(), 0);
        Check.due("type again", x.type('r'), 1);
        Check.due("clearing is no act", x.count(15), states);
        x.type('0');
        x.undo();
        Check.due("undo() leaves the text", x.count(16), 2);
        x.keep();
        x.clearText();
        x.restore();
        Check.due("restore() leaves the text", x.count(16), 0);
    }

    private static void fault(String text, int at) {
        Replay x = Plants.plain();
        Acts.type(x, text);
        Acts.refused("perform() of \"" + text + "\"", x, p -> p.perform(), -100 - at);
    }

    private static void promise16Faults() {
        String[] endsTooEarly = {"", "h", "h0", "h1", "h12", "h12c", "l", "l0c", "b", "r", "s", "p",
            "r0;", "b1;", "p48;h2"};
        for (String text : endsTooEarly) {
            fault(text, text.length());
        }
        fault("x", 0);
        fault("H0c0", 0);
        fault(";", 0);
        fault("0", 0);
        fault(" r0", 0);
        fault("c0", 0);
        fault("h c0", 1);
        fault("hc0", 1);
        fault("h-1c0", 1);
        fault("h00c0", 2);
        fault("h01c0", 2);
        fault("h123c0", 3);
        fault("h1;", 2);
        fault("h1c;", 3);
        fault("h1c01", 4);
        fault("h12c12", 5);
        fault("l1b", 2);
        fault("b00", 2);
        fault("b05", 2);
        fault("b1c0", 2);
        fault("b100", 3);
        fault("r01", 2);
        fault("r10", 2);
        fault("rr", 1);
        fault("s0s0", 2);
        fault("s12", 2);
        fault("p00", 2);
        fault("p480", 3);
        fault("p4 ", 2);
        fault("r0;;r1", 3);
        fault("r0; r1", 3);
        fault("r0;r1,r0", 5);
        fault("r0" + (char) 304, 2);
        fault("r" + (char) 1632, 1);
        fault("r9;b99;q", 7);
    }

    /** What was typed ahead of clearText() is gone, though the text is shorter then. */
    private static void oldCharactersAreGone() {
        String[] old = {"r0", "r0;s0", "b12", "h0c0", "h0c0", "p48;p48"};
        String[] texts = {"r", "r0;", "b", "h0c", "h0", "p"};
        for (int i = 0; i < old.length; i++) {
            Replay x = Plants.plain();
            x.addTask(0, 0, 1, 0, 1, 0);
            Acts.type(x, old[i]);
            x.clearText();
            Acts.type(x, texts[i]);
            Acts.refused("perform() of \"" + texts[i] + "\" after \"" + old[i] + "\"", x,
                    p -> p.perform(), -100 - texts[i].length());
        }
        Replay x = Plants.plain();
        Acts.type(x, "s1;r0;p48");
        x.clearText();
        Acts.type(x, "p1");
        Check.due("perform() of \"p1\" after a longer text", x.perform(), 1);
        Check.due("the hour", x.count(0), 1);
        x.clearText();
        Acts.refused("perform() of a cleared text", x, p -> p.perform(), -100);
    }

    private static void promise16Orders() {
        Replay x = Plants.plain();
        x.addTask(0, 1, 1, 0, 12, 0);
        Acts.type(x, "r1;r0;s0;h0c0;l0c0;h0c1;b0;p12;l0c1");
        Acts.done("perform() of nine orders", x, p -> p.perform(), 9);
        Check.due("the text stays", x.count(16), 35);
        Check.due("the task is done", x.task(0, 1), 4);
        Check.due("by the crew", x.task(0, 8), 1);
        Check.due("the hour", x.count(0), 12);
        Check.due("asset 1 runs", x.asset(1, 0), 1);
        Check.due("asset 0 stands", x.asset(0, 0), 0);
        x.clearText();
        Acts.type(x, "s0");
        Acts.done("an order that does nothing", x, p -> p.perform(), 1);
        x.clearText();
        Acts.type(x, "r1;s0;r1;p1");
        Acts.done("orders that do nothing, and one that does", x, p -> p.perform(), 4);
        twoDigits();
    }

    private static void twoDigits() {
        Replay x = Plants.plain();
        for (int i = 0; i < 24; i++) {
            x.addTask(0, 0, 1, 0, 1, 0);
        }
        Check.due("task 23", Acts.perform(x, "h23c0;b23;p1;l23c0"), 4);
        Check.due("task 23 is done", x.task(23, 1), 4);
        Check.due("task 10", Acts.perform(x, "h10c0"), 1);
        Check.due("task 10 hangs", x.task(10, 1), 1);
        Check.due("task 1 waits", x.task(1, 1), 0);
    }

    private static void refused(Replay x, String text, int want) {
        x.clearText();
        Acts.type(x, text);
        Acts.refused("perform() of \"" + text + "\"", x, p -> p.perform(), want);
    }

    private static void promise16Errors() {
        Replay x = Plants.plain();
        x.addTask(0, 1, 1, 0, 2, 0);
        refused(x, "r2", -1);
        refused(x, "s9", -1);
        refused(x, "b1", -1);
        refused(x, "h99c0", -1);
        refused(x, "h0c2", -1);
        refused(x, "l0c9", -1);
        refused(x, "p0", -2);
        refused(x, "p49", -2);
        refused(x, "p99", -2);
        refused(x, "b0", -4);
        refused(x, "l0c0", -4);
        refused(x, "r0;p5;s0;h0c0;b0;r0", -4);
        refused(x, "r0;p48;p48;p49;r7", -2);
        refused(x, "r0;p48;b0;p0", -4);
        refused(x, "r1;r0;h0c0", -4);
        refused(x, "r1;p1;r1x", -108);
        x.clearText();
        Acts.type(x, "p48");
        for (int i = 0; i < 41; i++) {
            Check.due("p48", x.perform(), 1);
        }
        Acts.refused("p48 too late", x, p -> p.perform(), -4);
        Check.due("the hour", x.count(0), 41 * 48);
    }

    private static void promise16FullText() {
        Replay x = Plants.plain();
        StringBuilder twenty = new StringBuilder("r0");
        for (int i = 1; i < 20; i++) {
            twenty.append(i % 2 == 0 ? ";r0" : ";s0");
        }
        Acts.type(x, twenty.toString());
        Check.due("the length", x.count(16), 59);
        Acts.done("twenty orders", x, p -> p.perform(), 20);
        x.type(';');
        Acts.refused("twenty orders and a sign", x, p -> p.perform(), -160);
        refused(x, twenty + "0", -159);
        String sixty = "h23c0;h22c0;h21c0;h20c0;h19c0;h18c0;h17c0;h16c0;h15c0;p48;p1";
        Check.due("sixty characters", sixty.length(), 60);
        refused(x, sixty, -1);
        refused(x, sixty + "x", -1);
        refused(x, sixty.replace("p48;p1", "p48;p;"), -159);
    }

    private static void promise17() {
        Replay x = new Replay();
        Acts.refused("undo() of nothing", x, p -> p.undo(), -5);
        x.addAsset(1, 1);
        Acts.refused("an error is not recorded", x, p -> p.addAsset(0, 0), -2);
        Check.due("undo() of the only act", x.undo(), 0);
        Check.due("no asset is left", x.count(1), 0);
        Acts.refused("undo() is not recorded", x, p -> p.undo(), -5);
        for (int i = 0; i < 6; i++) {
            x.addAsset(1, 1);
            Check.due("states", x.count(15), i < 4 ? i + 1 : 4);
        }
        for (int i = 3; i >= 0; i--) {
            Check.due("undo()", x.undo(), i);
            Check.due("assets left", x.count(1), i + 2);
        }
        Acts.refused("undo() beyond four", x, p -> p.undo(), -5);
        Check.due("the oldest ones are dropped", x.count(1), 2);
        undoAmongActs();
    }

    private static void undoAmongActs() {
        Replay x = new Replay();
        List<String> states = new ArrayList<>();
        for (int i = 0; i < 60; i++) {
            String was = Told.state(x);
            int answer = i % 5 == 0 ? x.addAsset(i + 1, i + 1) : i % 5 == 1 ? x.run(i % 8)
                    : i % 5 == 2 ? x.stop(i % 7) : x.pass(i % 48);
            if (answer >= 0) {
                states.add(was);
            }
            while (states.size() > 4) {
                states.remove(0);
            }
            if (i % 3 == 0 && !states.isEmpty()) {
                Check.due("undo() among acts", x.undo(), states.size() - 1);
                Check.due("the state", Told.state(x), states.remove(states.size() - 1));
            }
        }
    }

    private static void promise18And19() {
        Replay x = Plants.plain();
        Acts.refused("restore() of nothing", x, p -> p.restore(), -5);
        x.pass(3);
        int states = x.count(15);
        String first = Told.state(x);
        Check.due("keep()", x.keep(), 3);
        Check.due("keep() is no act", x.count(15), states);
        Check.due("keep() changes nothing", Told.state(x), first);
        x.run(1);
        x.link(0, 1, true);
        x.pass(4);
        x.addTask(0, 0, 1, 0, 1, 7);
        x.hang(0, 0);
        Acts.done("restore()", x, p -> p.restore(), 3);
        Check.due("the state then", Told.state(x), first);
        x.pass(9);
        Acts.done("restore() again", x, p -> p.restore(), 3);
        Acts.done("restore() to the same", x, p -> p.restore(), 3);
        x.pass(10);
        Check.due("keep() in its place", x.keep(), 13);
        while (x.undo() >= 0) {
            Check.due("undo() leaves the snapshot", x.count(0) <= 13 ? 1 : 0, 1);
        }
        Acts.done("restore() of the second", x, p -> p.restore(), 13);
        emptySnapshot();
        wholeStatesComeBack();
        tagsComeBackInTheirOrder();
    }

    /** A snapshot of an empty plant is one, too; bars belong to the state. */
    private static void emptySnapshot() {
        Replay x = new Replay();
        Check.due("keep() of a new one", x.keep(), 0);
        x.addAsset(1, 1);
        x.bar(1, 2, true);
        x.bar(3, 3, true);
        Acts.done("restore()", x, p -> p.restore(), 0);
        Check.due("no assets", x.count(1), 0);
        Check.due("no bar", x.bar(1, 2, false), -5);
        Check.due("no bar of one", x.bar(3, 3, false), -5);
        Check.due("undo()", x.undo(), 3);
        Check.due("bars are back", x.bar(2, 1, true), -5);
    }

    /** Numbers that were given anew meanwhile are those of the old things again. */
    private static void wholeStatesComeBack() {
        Replay x = new Replay();
        x.addAsset(10, 100);
        x.addCrew(3, 5);
        x.addCrew(4, 12);
        x.addTask(0, 2, 2, 3, 7, 5);
        String first = Told.state(x);
        x.keep();
        for (int i = 3; i >= 0; i--) {
            Check.due("undo()", x.undo(), i);
        }
        x.addAsset(90, 7);
        x.addCrew(6, 11);
        x.addCrew(1, 2);
        x.addAsset(80, 9);
        x.addTask(1, 1, 1, 1, 1, 1);
        String second = Told.state(x);
        Check.due("restore() of the first", x.restore(), 0);
        Check.due("the first state", Told.state(x), first);
        x.run(0);
        x.pass(1);
        Check.dueFloat("the output of the first", x.real(0, 1), 10.0f);
        for (int i = 3; i >= 1; i--) {
            Check.due("undo()", x.undo(), i);
        }
        Check.due("the second state", Told.state(x), second);
        x.run(0);
        x.run(1);
        x.pass(1);
        Check.dueFloat("the output of the second", x.real(0, 1), 90.0f);
        Check.dueFloat("the output beside it", x.real(1, 1), 80.0f);
    }

    private static void tagsComeBackInTheirOrder() {
        Replay x = Plants.plain();
        for (int i = 0; i < 3; i++) {
            x.addTask(0, 1, 1, 0, 1, 0);
        }
        x.hang(2, 0);
        x.hang(0, 0);
        x.hang(1, 1);
        String first = Told.state(x);
        x.keep();
        for (int i = 0; i < 3; i++) {
            x.undo();
        }
        x.hang(1, 0);
        x.hang(0, 1);
        x.hang(2, 0);
        String second = Told.state(x);
        x.restore();
        Check.due("the tags of the first", Told.state(x), first);
        Check.due("the uppermost of the first", x.tagAt(0, 0), 1);
        x.undo();
        Check.due("the tags of the second", Told.state(x), second);
        Check.due("the lowest of the second", x.tagAt(0, 2), 1);
        Acts.refused("lift what was uppermost in the first", x, p -> p.lift(1, 0), -4);
        Acts.done("lift what is in the second", x, p -> p.lift(2, 0), 2);
    }
}
