/**
 * Promises 14 to 16, edge by edge: each sentence of the document that names a boundary case has a
 * test of its own, which quotes it.
 */
public final class TextEdgesTest {
    private static final int UNKNOWN = TagWindows.UNKNOWN;
    private static final int BAD_VALUE = TagWindows.BAD_VALUE;
    private static final int FULL = TagWindows.FULL;
    private static final int NOT_POSSIBLE = TagWindows.NOT_POSSIBLE;
    private static final String DIGITS = "0123456789";
    /** Twenty orders of 59 characters, none of which is an error where the assets 0 and 1 are. */
    private static final String TWENTY = "r0;r1;s1;r0;s0;s1;r1;r0;s1;s0;r0;r1;s1;r0;s0;s1;r1;r0;s1;p2";

    public static void main(String[] args) {
        typeTheFirstCharacter();
        typeTheSixtiethAndTheNext();
        typeAnyCharacter();
        typeIsNoAct();
        clearTextTellsItsLength();
        clearTextIsNoAct();
        clearedCharactersAreGone();
        theEmptyTextEndsTooEarly();
        textsThatEndTooEarly();
        eachCharacterAtItsPlace();
        zerosInFront();
        oneOrderAndTwenty();
        faultsAtTheEndOfAFullText();
        aFaultComesAheadOfErrors();
        performIsOneAct();
        performDoesAllOrNone();
        theFirstErrorIsTold();
        errorsWhenTheirTurnComes();
        noneIsNoError();
        tasksOfOneAndTwoDigits();
        assetsAndCrewsOfOneDigit();
        hoursOfOneAndTwoDigits();
        theLastHourInAText();
        eachOrderIsItsMethod();
        theTextStays();
        Check.end();
    }

    /** The plant with a text in place of the one that was. */
    private static Replay with(Replay x, String text) {
        x.clearText();
        Acts.type(x, text);
        return x;
    }

    private static Replay typed(String text) {
        return with(Plants.small(), text);
    }

    private static void refused(String text, Replay x, int want) {
        Acts.refused("16 perform() of \"" + text + "\"", with(x, text), p -> p.perform(), want);
    }

    private static void done(String text, Replay x, int want) {
        Acts.done("16 perform() of \"" + text + "\"", with(x, text), p -> p.perform(), want);
    }

    private static String repeated(String part, int times) {
        return part.repeat(times);
    }

    private static void typeTheFirstCharacter() {
        Replay x = Plants.small();
        x.clearText();
        Acts.told("14 the empty text", x, p -> p.count(16), 0);
        Check.due("14 type the first", x.type('x'), 1);
        Acts.told("14 a text of one", x, p -> p.count(16), 1);
    }

    /** "a text of at most 60 characters"; "FULL if it has 60 characters". */
    private static void typeTheSixtiethAndTheNext() {
        Replay x = typed(repeated("p", 58));
        Check.due("14 type the 59th", x.type('x'), 59);
        Check.due("14 type the 60th", x.type('y'), 60);
        Acts.told("14 a text of sixty", x, p -> p.count(16), 60);
        char[] more = {'z', ';', (char) 0, (char) 65535};
        for (char c : more) {
            Acts.refused("14 type the 61st", x, p -> p.type(c), FULL);
        }
        x.type('z');
        Acts.told("14 a text of sixty still", x, p -> p.count(16), 60);
        x.clearText();
        Check.due("14 there is room again", x.type('z'), 1);
        Replay y = typed(TWENTY + "0");
        Acts.refused("14 type the 61st of a text without fault", y, p -> p.type('x'), FULL);
        Acts.act("16 perform() of sixty behind the 61st", y.and(p -> p.type('x')), p -> p.perform(), 20);
    }

    /** "character: any character". */
    private static void typeAnyCharacter() {
        char[] any = {(char) 0, (char) 10, ' ', 'h', (char) 127, (char) 128, (char) 255, (char) 256,
            (char) 0xd800, (char) 65535};
        for (char c : any) {
            Replay x = typed("r0");
            Check.due("14 type " + (int) c, x.type(c), 3);
            Acts.refused("16 perform() with " + (int) c, x, p -> p.perform(), -102);
        }
    }

    /** "A state is everything but the text": typing records nothing, undo() leaves the text. */
    private static void typeIsNoAct() {
        Replay x = new Replay();
        x.addAsset(1, 1);
        x.type('p');
        x.type('1');
        Acts.told("14 typing is not recorded", x, p -> p.count(15), 1);
        x.undo();
        Acts.told("14 undo() leaves the text", x, p -> p.count(16), 2);
        Acts.act("14 undo() leaves its characters", x, p -> p.perform(), 1);
    }

    /** "Returns the length that it had": 0, 1, 59 and 60. */
    private static void clearTextTellsItsLength() {
        int[] lengths = {0, 1, 59, 60};
        for (int length : lengths) {
            Replay x = typed(repeated("b", length));
            Check.due("15 clearText() of " + length, x.clearText(), length);
            Acts.told("15 the text is empty", x, p -> p.count(16), 0);
            Acts.refused("15 clearText() again", x, p -> p.clearText(), 0);
        }
    }

    private static void clearTextIsNoAct() {
        Replay x = typed("p1");
        String state = Told.state(x);
        int states = x.count(15);
        x.clearText();
        Check.due("15 clearText() is not recorded", x.count(15), states);
        Check.due("15 clearText() leaves the state", Told.state(x), state);
        x.undo();
        Acts.told("15 undo() does not bring the text back", x, p -> p.count(16), 0);
    }

    private static void clearedCharactersAreGone() {
        Replay x = typed("h0c0;r0");
        with(x, "r");
        Acts.refused("15 what stood behind it is gone", x, p -> p.perform(), -101);
        with(typed(TWENTY), "r1;");
        Acts.refused("15 orders behind it are gone", with(typed(TWENTY), "r1;"), p -> p.perform(), -103);
        Acts.act("15 one order is left", with(typed(TWENTY), "r1"), p -> p.perform(), 1);
        Acts.act("15 one digit is left", with(typed("p48"), "p4"), p -> p.perform(), 1);
    }

    /** "or the length of the text if it ends too early (the empty text does)". */
    private static void theEmptyTextEndsTooEarly() {
        refused("", Plants.small(), -100);
        refused("", new Replay(), -100);
    }

    private static void textsThatEndTooEarly() {
        String[] tooEarly = {"h", "h0", "h7", "h23", "h0c", "h23c", "l", "l0", "l7", "l23", "l0c", "l23c",
            "b", "r", "s", "p", "r0;", "h0c0;", "l23c4;", "b0;", "b23;", "s1;", "p0;", "p48;", "r0;s"};
        for (String text : tooEarly) {
            refused(text, Plants.small(), -100 - text.length());
        }
    }

    /** "the index, from 0, of the first character that is not allowed at its place". */
    private static void eachCharacterAtItsPlace() {
        String[][] places = {
            {"", "hlbrsp"},
            {"h", DIGITS}, {"h0", "c"}, {"h1", DIGITS + "c"}, {"h9", DIGITS + "c"}, {"h10", "c"},
            {"h99", "c"}, {"h0c", DIGITS}, {"h23c", DIGITS}, {"h0c0", ";"}, {"h1c9", ";"},
            {"l", DIGITS}, {"l0", "c"}, {"l1", DIGITS + "c"}, {"l9", DIGITS + "c"}, {"l10", "c"},
            {"l99", "c"}, {"l0c", DIGITS}, {"l23c", DIGITS}, {"l0c0", ";"}, {"l1c9", ";"},
            {"b", DIGITS}, {"b0", ";"}, {"b1", DIGITS + ";"}, {"b9", DIGITS + ";"}, {"b10", ";"},
            {"b99", ";"},
            {"r", DIGITS}, {"r0", ";"}, {"r1", ";"}, {"r9", ";"},
            {"s", DIGITS}, {"s0", ";"}, {"s1", ";"}, {"s9", ";"},
            {"p", DIGITS}, {"p0", ";"}, {"p1", DIGITS + ";"}, {"p9", DIGITS + ";"}, {"p10", ";"},
            {"p99", ";"},
            {"r0;", "hlbrsp"}, {"h1c2;", "hlbrsp"}, {"l1c2;", "hlbrsp"}, {"b12;", "hlbrsp"},
            {"s3;", "hlbrsp"}, {"p0;", "hlbrsp"}, {"p12;", "hlbrsp"}};
        for (String[] place : places) {
            for (int c = 0; c <= 1100; c++) {
                tried(place[0], (char) c, place[1]);
            }
            for (int i = 0; i < place[1].length(); i++) {
                tried(place[0], (char) (place[1].charAt(i) + 0x2000), place[1]);
                tried(place[0], (char) (place[1].charAt(i) + 0xff00), place[1]);
            }
        }
    }

    private static void tried(String beginning, char c, String allowed) {
        TagWindows x = new TagWindows();
        for (int i = 0; i < beginning.length(); i++) {
            x.type(beginning.charAt(i));
        }
        x.type(c);
        int fault = -100 - beginning.length();
        int answer = x.perform();
        boolean isAllowed = allowed.indexOf(c) >= 0;
        String call = "16 perform() of \"" + beginning + "\" and " + (int) c;
        if (isAllowed) {
            Check.due(call + " has its fault, if any, behind it",
                    answer > -100 || answer == fault - 1 ? 1 : 0, 1);
        } else {
            Check.due(call, answer, fault);
        }
    }

    /** "without a zero in front (unless it is the single digit 0)". */
    private static void zerosInFront() {
        String[] front = {"h00c0", "h01c0", "h09c0", "l00c0", "l01c0", "b00", "b01", "b09", "p00", "p01", "p09"};
        for (String text : front) {
            refused(text, Plants.small(), -102);
        }
        Replay x = Plants.small();
        x.addTask(0, 1, 1, 0, 1, 0);
        done("h0c0", x, 1);
        done("b0", x, 1);
        done("p1", x, 1);
        done("l0c0", x, 1);
        refused("p0", x, BAD_VALUE);
    }

    /** "one or more orders with ";" between two": at most 20 have room. */
    private static void oneOrderAndTwenty() {
        done("p1", Plants.small(), 1);
        done("p1;p1", Plants.small(), 2);
        Check.due("16 the length of twenty orders", TWENTY.length(), 59);
        done(TWENTY, Plants.small(), 20);
        done(TWENTY + "4", Plants.small(), 20);
        Replay x = with(Plants.small(), TWENTY + "4");
        x.perform();
        Acts.told("16 the last character counts, too", x, p -> p.count(0), 24);
        done(TWENTY.substring(0, 56), Plants.small(), 19);
    }

    private static void faultsAtTheEndOfAFullText() {
        refused(TWENTY + ";", Plants.small(), -160);
        refused(TWENTY + "x", Plants.small(), -159);
        refused(TWENTY.substring(0, 58), Plants.small(), -158);
        refused(TWENTY.substring(0, 57), Plants.small(), -157);
        refused(TWENTY.substring(0, 57) + "s1x", Plants.small(), -159);
        refused(TWENTY.substring(0, 57) + "x11", Plants.small(), -157);
        refused(repeated(";", 60), Plants.small(), -100);
        refused(repeated("p1;", 20), Plants.small(), -160);
        refused(repeated("b9;", 19) + "h9c", Plants.small(), -160);
        refused(repeated("b9;", 19) + "h12", Plants.small(), -160);
        refused(repeated("h10c1;", 10), Plants.small(), -160);
    }

    /** "-100 minus the fault of the text if it has one ..; otherwise .. the error". */
    private static void aFaultComesAheadOfErrors() {
        refused("r9;x", Plants.small(), -103);
        refused("p0;", Plants.small(), -103);
        refused("b0;r99", Plants.small(), -105);
        refused("r0;p1;h0c0;s0 ", Plants.small(), -113);
    }

    /** "all of them, or none. This is one act." */
    private static void performIsOneAct() {
        Replay x = new Replay();
        x.addAsset(10, 100);
        done("r0;p1;s0;p1;r0;p1", x, 6);
        Acts.told("16 six orders are one state", x, p -> p.count(15), 2);
        Check.due("16 undo() takes all of them back", x.undo(), 1);
        Acts.told("16 the hour then", x, p -> p.count(0), 0);
        Acts.told("16 it stands then", x, p -> p.asset(0, 0), 0);
    }

    private static void performDoesAllOrNone() {
        String most = TWENTY.substring(0, 57);
        refused(most + "p0", Plants.small(), BAD_VALUE);
        refused(most + "p49", Plants.small(), BAD_VALUE);
        refused(most + "b0", Plants.small(), UNKNOWN);
        refused(most + "r2", Plants.small(), UNKNOWN);
        Replay x = Plants.small();
        x.addTask(0, 1, 1, 0, 3, 0);
        x.addTask(0, 1, 1, 0, 3, 0);
        refused("r1;h0c0;h1c1;b0;p9;l1c1;l0c1", x, NOT_POSSIBLE);
        done("r1;h0c0;h1c1;b0;p9;l1c1;l0c0", x, 7);
    }

    /** "of the first order for which it is so .. the error that its method returns". */
    private static void theFirstErrorIsTold() {
        refused("p0;r9", Plants.small(), BAD_VALUE);
        refused("r9;p0", Plants.small(), UNKNOWN);
        Replay x = Plants.small();
        x.addTask(0, 1, 1, 0, 1, 5);
        refused("b0;r9;p0", x, NOT_POSSIBLE);
        refused("p1;p0;b0;r9", x, BAD_VALUE);
        refused("h0c0;p1;l0c2;p0;b0", x, UNKNOWN);
        refused("p1;h0c0;b0;p49", x, NOT_POSSIBLE);
    }

    /** "when its turn comes": not as things stand at first. */
    private static void errorsWhenTheirTurnComes() {
        Replay x = Plants.small();
        x.addTask(0, 1, 1, 0, 2, 1);
        x.run(0);
        refused("h0c0", x, NOT_POSSIBLE);
        refused("s0;h0c0;b0", x, NOT_POSSIBLE);
        refused("s0;h0c0;p1;b0;p1;l0c0", x, NOT_POSSIBLE);
        refused("s0;h0c0;r0", x, NOT_POSSIBLE);
        done("s0;h0c0;p1;b0;p2;l0c0;r0", x, 7);
    }

    /** "NONE is no error here: the order does nothing then". */
    private static void noneIsNoError() {
        Replay x = Plants.small();
        done("s0", x, 1);
        done("s0;s1;s0", x, 3);
        done("r0;r0;r0", x, 3);
        Acts.told("16 it runs", x, p -> p.asset(0, 0), 1);
        done("r0;p1;r0", x, 3);
        Acts.told("16 the order between is done", x, p -> p.count(0), 1);
        refused("r0;p0;r0", x, BAD_VALUE);
    }

    /** "Tasks .. have one or two digits". */
    private static void tasksOfOneAndTwoDigits() {
        int[] tasks = {0, 1, 9, 10, 19, 20, 23};
        for (int task : tasks) {
            Replay x = Plants.full();
            done("h" + task + "c4", x, 1);
            Acts.told("16 the tag of " + task, x, p -> p.task(task, 1), 1);
            Acts.told("16 one tag alone", x, p -> p.count(12), 1);
            Plants.passTo(x, 100);
            done("b" + task, x, 1);
            Acts.told("16 the work of " + task, x, p -> p.task(task, 1), 2);
            done("p48;l" + task + "c4", x, 2);
            Acts.told("16 it is done", x, p -> p.task(task, 1), 4);
        }
        int[] unknown = {24, 90, 99};
        for (int task : unknown) {
            refused("h" + task + "c0", Plants.full(), UNKNOWN);
            refused("b" + task, Plants.full(), UNKNOWN);
            refused("l" + task + "c0", Plants.full(), UNKNOWN);
        }
    }

    /** "crews and assets have one digit". */
    private static void assetsAndCrewsOfOneDigit() {
        int[] assets = {0, 7};
        for (int asset : assets) {
            Replay x = Plants.full();
            done("r" + asset, x, 1);
            Acts.told("16 asset " + asset + " runs", x, p -> p.asset(asset, 0), 1);
            Acts.told("16 it alone does", x, p -> p.count(2), 1);
            done("s" + asset, x, 1);
            Acts.told("16 asset " + asset + " stands", x, p -> p.asset(asset, 0), 0);
        }
        for (int crew = 0; crew <= 4; crew++) {
            int c = crew;
            Replay x = Plants.full();
            done("h0c" + crew, x, 1);
            Acts.told("16 the crew " + crew, x, p -> p.task(0, 8), c);
            refused("l0c" + (crew + 1) % 5, x, NOT_POSSIBLE);
            done("l0c" + crew, x, 1);
        }
        int[] unknown = {8, 9};
        for (int asset : unknown) {
            refused("r" + asset, Plants.full(), UNKNOWN);
            refused("s" + asset, Plants.full(), UNKNOWN);
        }
        for (int crew = 5; crew <= 9; crew++) {
            refused("h0c" + crew, Plants.full(), UNKNOWN);
            refused("l0c" + crew, Plants.full(), UNKNOWN);
        }
    }

    /** "hours have one or two digits": pass() takes 1 to 48 of them. */
    private static void hoursOfOneAndTwoDigits() {
        int[] hours = {1, 9, 10, 11, 47, 48};
        for (int h : hours) {
            Replay x = Plants.small();
            done("p" + h, x, 1);
            Acts.told("16 the hour", x, p -> p.count(0), h);
        }
        int[] bad = {0, 49, 50, 99};
        for (int h : bad) {
            refused("p" + h, Plants.small(), BAD_VALUE);
        }
    }

    private static void theLastHourInAText() {
        done("p48;p48;p1", Plants.smallAt(1903), 3);
        refused("p48;p48;p2", Plants.smallAt(1903), NOT_POSSIBLE);
        refused("p48;p48;p1;p1", Plants.smallAt(1903), NOT_POSSIBLE);
        refused("p48;p48;p49", Plants.smallAt(1903), BAD_VALUE);
    }

    /** "They are hang(), lift(), begin(), run(), stop() and pass()." */
    private static void eachOrderIsItsMethod() {
        Replay x = Plants.small();
        x.addTask(1, 1, 1, 0, 1, 0);
        same(x, "r0", "run", x.and(p -> p.run(0)));
        x.run(0);
        same(x, "s0", "stop", x.and(p -> p.stop(0)));
        same(x, "h0c1", "hang", x.and(p -> p.hang(0, 1)));
        x.hang(0, 1);
        same(x, "b0", "begin", x.and(p -> p.begin(0)));
        same(x, "l0c1", "lift", x.and(p -> p.lift(0, 1)));
        x.begin(0);
        same(x, "p1", "pass", x.and(p -> p.pass(1)));
    }

    private static void same(Replay x, String order, String method, Replay due) {
        Replay y = with(x.copy(), order);
        Check.due("16 perform() of " + order, y.perform(), 1);
        Check.due("16 " + order + " is " + method + "()", Told.state(y), Told.state(due));
    }

    /** "Does the orders of the text, which stays": whether they are done or not. */
    private static void theTextStays() {
        Replay x = typed("r0;p1");
        done("r0;p1", x, 2);
        Acts.told("16 the text stays", x, p -> p.count(16), 5);
        Acts.done("16 perform() once more", x, p -> p.perform(), 2);
        Acts.told("16 the hour", x, p -> p.count(0), 2);
        x.type(';');
        Acts.refused("16 perform() with a fault", x, p -> p.perform(), -106);
        x.perform();
        x.type('p');
        x.type('0');
        Acts.refused("16 perform() with an error", x, p -> p.perform(), BAD_VALUE);
        x.perform();
        Acts.told("16 the text stays behind an error", x, p -> p.count(16), 8);
    }
}
