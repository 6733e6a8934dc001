/**
 * The maintenance of a plant: assets that run and wear, tasks with windows that slip, permits,
 * tags, crews, forecasts, orders that are read from a text, undo and a snapshot.
 *
 * <p>The rules of the plant stand in the class Plant, which knows nothing of texts and history.
 * All rows are made once, with the object; a state is copied from row to row.
 */
public final class TagWindows {
    public static final int UNKNOWN = -1;
    public static final int BAD_VALUE = -2;
    public static final int FULL = -3;
    public static final int NOT_POSSIBLE = -4;
    public static final int NONE = -5;

    /** What perform() answers for a fault at the index 0; a later one answers less. */
    private static final int FIRST_FAULT = -100;

    private static final int MOST_ASSETS = 8;
    private static final int MOST_CREWS = 5;
    private static final int MOST_TASKS = 24;
    private static final int MOST_PEOPLE = 6;
    private static final int MOST_SKILLS = 4;
    private static final int KINDS = 5;
    private static final int LAST_HOUR = 2000;
    private static final int MOST_HOURS = 48;
    private static final int MOST_HOURS_FORETOLD = 200;
    private static final int MOST_STATES = 4;
    private static final int MOST_CHARACTERS = 60;

    /** The states of a task. */
    private static final int WAITS = 0;
    private static final int HUNG = 1;
    private static final int IN_WORK = 2;
    private static final int FINISHED = 3;
    private static final int DONE = 4;
    private static final int MISSED = 5;
    private static final int CANCELLED = 6;

    private final Plant now = new Plant();
    private final Plant before = new Plant();
    private final Plant kept = new Plant();
    private boolean hasKept = false;
    private final History history = new History();
    private final Orders orders = new Orders();

    public TagWindows() {
    }

    // ---- what there is

    public int addAsset(int rate, int wear) {
        before.copyFrom(now);
        return recorded(now.newAsset(rate, wear));
    }

    public int link(int asset, int other, boolean is) {
        before.copyFrom(now);
        return recorded(now.setLink(asset, other, is));
    }

    public int bar(int kind, int other, boolean is) {
        before.copyFrom(now);
        return recorded(now.setBar(kind, other, is));
    }

    public int addCrew(int people, int skills) {
        before.copyFrom(now);
        return recorded(now.newCrew(people, skills));
    }

    public int addTask(int asset, int skill, int people, int kind, int hours, int from) {
        before.copyFrom(now);
        return recorded(now.newTask(asset, skill, people, kind, hours, from));
    }

    // ---- work

    public int run(int asset) {
        before.copyFrom(now);
        return recorded(now.startAsset(asset));
    }

    public int stop(int asset) {
        before.copyFrom(now);
        return recorded(now.stopAsset(asset));
    }

    public int hang(int task, int crew) {
        before.copyFrom(now);
        return recorded(now.hangTag(task, crew));
    }

    public int begin(int task) {
        before.copyFrom(now);
        return recorded(now.beginTask(task));
    }

    public int lift(int task, int crew) {
        before.copyFrom(now);
        return recorded(now.liftTag(task, crew));
    }

    public int cancel(int task) {
        before.copyFrom(now);
        return recorded(now.cancelTask(task));
    }

    public int pass(int hours) {
        before.copyFrom(now);
        return recorded(now.passHours(hours));
    }

    // ---- texts

    public int type(char character) {
        return orders.append(character);
    }

    public int clearText() {
        return orders.clear();
    }

    public int perform() {
        int fault = orders.read();
        if (fault != Orders.NO_FAULT) {
            return FIRST_FAULT - fault;
        }
        before.copyFrom(now);
        for (int i = 0; i < orders.count && i < orders.rows.length; i++) {
            int answer = follow(orders.rows[i]);
            if (answer < 0 && answer != NONE) {
                now.copyFrom(before);
                return answer;
            }
        }
        return recorded(orders.count);
    }

    // ---- history

    public int undo() {
        return history.takeBack(now);
    }

    public int keep() {
        kept.copyFrom(now);
        hasKept = true;
        return now.hour;
    }

    public int restore() {
        if (!hasKept) {
            return NONE;
        }
        before.copyFrom(now);
        now.copyFrom(kept);
        return recorded(now.hour);
    }

    // ---- what is told

    public float real(int asset, int what) {
        if (!now.hasAsset(asset)) {
            return 0.0f / 0.0f;
        }
        Asset a = now.assets[asset];
        switch (what) {
            case 0: return a.health;
            case 1: return a.output;
            case 2: return a.wear;
            default: return 0.0f / 0.0f;
        }
    }

    public float healthIn(int asset, int hours) {
        if (!now.hasAsset(asset) || !within(hours, 0, MOST_HOURS_FORETOLD)) {
            return 0.0f / 0.0f;
        }
        return now.assets[asset].healthAfter(hours);
    }

    public int hoursTo(int asset, int percent) {
        if (!now.hasAsset(asset)) {
            return UNKNOWN;
        }
        if (!within(percent, 1, 100)) {
            return BAD_VALUE;
        }
        return now.assets[asset].hoursUntilBelow(percent / 100.0f);
    }

    public int asset(int asset, int what) {
        if (!now.hasAsset(asset)) {
            return UNKNOWN;
        }
        Asset a = now.assets[asset];
        switch (what) {
            case 0: return a.runs ? 1 : 0;
            case 1: return now.tagsHanging(asset);
            case 2: return now.taskOfTag(asset, 0);
            case 3: return a.links;
            case 4: return now.tasksOfAsset(asset, WAITS, FINISHED);
            case 5: return now.tasksOfAsset(asset, DONE, DONE);
            case 6: return (int) (a.health * 1000.0f);
            case 7: return (int) a.output;
            default: return BAD_VALUE;
        }
    }

    public int tagAt(int asset, int place) {
        if (!now.hasAsset(asset)) {
            return UNKNOWN;
        }
        if (place < 0) {
            return BAD_VALUE;
        }
        return now.taskOfTag(asset, place);
    }

    public int crew(int crew, int what) {
        if (!now.hasCrew(crew)) {
            return UNKNOWN;
        }
        Crew c = now.crews[crew];
        switch (what) {
            case 0: return c.people;
            case 1: return c.skills;
            case 2: return now.busyPeople(crew);
            case 3: return now.tasksOfCrew(crew, HUNG, FINISHED);
            case 4: return now.tasksOfCrew(crew, DONE, DONE);
            default: return BAD_VALUE;
        }
    }

    public int task(int task, int what) {
        if (!now.hasTask(task)) {
            return UNKNOWN;
        }
        Task t = now.tasks[task];
        switch (what) {
            case 0: return t.asset;
            case 1: return t.state;
            case 2: return t.skill;
            case 3: return t.people;
            case 4: return t.kind;
            case 5: return t.hours;
            case 6: return t.from;
            case 7: return t.end;
            case 8: return t.crew;
            case 9: return t.state == IN_WORK ? t.left : NONE;
            case 10: return t.slips;
            case 11: return now.reasonAgainst(task);
            case 12: return now.barrierOf(task);
            default: return BAD_VALUE;
        }
    }

    public int crewFor(int task) {
        if (!now.hasTask(task)) {
            return UNKNOWN;
        }
        return now.firstCrewFor(task);
    }

    public int count(int what) {
        switch (what) {
            case 0: return now.hour;
            case 1: return now.assetCount;
            case 2: return now.assetsRunning();
            case 3: return now.crewCount;
            case 4: return now.taskCount;
            case 12: return now.tasksIn(HUNG, FINISHED);
            case 13: return now.slipsSoFar();
            case 14: return now.allBusyPeople();
            case 15: return history.size;
            case 16: return orders.length;
            default: break;
        }
        if (within(what, 5, 11)) {
            return now.tasksIn(what - 5, what - 5);
        }
        return BAD_VALUE;
    }

    // ---- behind the face

    /** Every act that is done answers 0 or more, so a lesser answer changed nothing. */
    private int recorded(int answer) {
        if (answer >= 0) {
            history.add(before);
        }
        return answer;
    }

    private int follow(Order order) {
        if (order.verb == 'h') {
            return now.hangTag(order.number, order.crew);
        }
        if (order.verb == 'l') {
            return now.liftTag(order.number, order.crew);
        }
        if (order.verb == 'b') {
            return now.beginTask(order.number);
        }
        if (order.verb == 'r') {
            return now.startAsset(order.number);
        }
        if (order.verb == 's') {
            return now.stopAsset(order.number);
        }
        return now.passHours(order.number);
    }

    private static boolean within(int value, int least, int most) {
        return value >= least && value <= most;
    }

    private static final class Asset {
        int rate = 0;
        float wear = 0.0f;
        float health = 1.0f;
        float output = 0.0f;
        boolean runs = false;
        /** The linked assets, as bits. */
        int links = 0;

        void setUp(int newRate, int thousandths) {
            rate = newRate;
            wear = thousandths / 1000.0f;
            health = 1.0f;
            output = 0.0f;
            runs = false;
            links = 0;
        }

        void copyFrom(Asset other) {
            rate = other.rate;
            wear = other.wear;
            health = other.health;
            output = other.output;
            runs = other.runs;
            links = other.links;
        }

        boolean isLinkedTo(int asset) {
            return (links >> asset & 1) == 1;
        }

        void runForAnHour() {
            output = output + rate * health;
            health = afterAnHour(health);
        }

        void mend() {
            health = health + (1.0f - health) * 0.75f;
        }

        float afterAnHour(float healthThen) {
            float worn = healthThen - healthThen * wear;
            return worn < 0.01f ? 0.01f : worn;
        }

        float healthAfter(int hours) {
            float healthThen = health;
            for (int i = 0; i < hours; i++) {
                healthThen = afterAnHour(healthThen);
            }
            return healthThen;
        }

        int hoursUntilBelow(float bound) {
            float healthThen = health;
            for (int hours = 0; hours <= MOST_HOURS_FORETOLD; hours++) {
                if (healthThen < bound) {
                    return hours;
                }
                healthThen = afterAnHour(healthThen);
            }
            return NONE;
        }
    }

    private static final class Crew {
        int people = 0;
        /** The skills, as bits. */
        int skills = 0;

        void setUp(int newPeople, int newSkills) {
            people = newPeople;
            skills = newSkills;
        }

        void copyFrom(Crew other) {
            people = other.people;
            skills = other.skills;
        }

        boolean has(int skill) {
            return (skills >> skill & 1) == 1;
        }
    }

    private static final class Task {
        int asset = 0;
        int skill = 0;
        int people = 0;
        int kind = 0;
        int hours = 0;
        int from = 0;
        int end = 0;
        int state = WAITS;
        /** The crew that hung the tag, or NONE; it stays when the task is done. */
        int crew = NONE;
        int left = 0;
        int slips = 0;
        /** How many tags hang under its own one at its asset, while that hangs. */
        int height = 0;

        void setUp(int newAsset, int newSkill, int newPeople, int newKind, int newHours, int newFrom) {
            asset = newAsset;
            skill = newSkill;
            people = newPeople;
            kind = newKind;
            hours = newHours;
            from = newFrom;
            end = newFrom + 2 * newHours + 6;
            state = WAITS;
            crew = NONE;
            left = 0;
            slips = 0;
            height = 0;
        }

        void copyFrom(Task other) {
            asset = other.asset;
            skill = other.skill;
            people = other.people;
            kind = other.kind;
            hours = other.hours;
            from = other.from;
            end = other.end;
            state = other.state;
            crew = other.crew;
            left = other.left;
            slips = other.slips;
            height = other.height;
        }

        boolean isIn(int first, int last) {
            return state >= first && state <= last;
        }

        boolean tagHangs() {
            return isIn(HUNG, FINISHED);
        }

        /** Whether the window ends too early for all hours, begun at that hour. */
        boolean isTooLateAt(int hour) {
            return hour + hours > end;
        }

        void slip() {
            if (state == WAITS && slips >= 3) {
                state = MISSED;
                return;
            }
            from += 24;
            end += 24;
            slips++;
        }
    }

    /** One state: everything but the text, the history and the snapshot. */
    private static final class Plant {
        final Asset[] assets = new Asset[MOST_ASSETS];
        final Crew[] crews = new Crew[MOST_CREWS];
        final Task[] tasks = new Task[MOST_TASKS];
        /** For each kind of permit the kinds that bar it, as bits. */
        final int[] bars = new int[KINDS];
        int assetCount = 0;
        int crewCount = 0;
        int taskCount = 0;
        int hour = 0;

        Plant() {
            for (int i = 0; i < assets.length; i++) {
                assets[i] = new Asset();
            }
            for (int i = 0; i < crews.length; i++) {
                crews[i] = new Crew();
            }
            for (int i = 0; i < tasks.length; i++) {
                tasks[i] = new Task();
            }
        }

        void copyFrom(Plant other) {
            for (int i = 0; i < assets.length; i++) {
                assets[i].copyFrom(other.assets[i]);
            }
            for (int i = 0; i < crews.length; i++) {
                crews[i].copyFrom(other.crews[i]);
            }
            for (int i = 0; i < tasks.length; i++) {
                tasks[i].copyFrom(other.tasks[i]);
            }
            for (int i = 0; i < bars.length; i++) {
                bars[i] = other.bars[i];
            }
            assetCount = other.assetCount;
            crewCount = other.crewCount;
            taskCount = other.taskCount;
            hour = other.hour;
        }

        boolean hasAsset(int asset) {
            return asset >= 0 && asset < assetCount;
        }

        boolean hasCrew(int crew) {
            return crew >= 0 && crew < crewCount;
        }

        boolean hasTask(int task) {
            return task >= 0 && task < taskCount;
        }

        // what there is

        int newAsset(int rate, int wear) {
            if (!within(rate, 1, 100) || !within(wear, 1, 200)) {
                return BAD_VALUE;
            }
            if (assetCount >= assets.length) {
                return FULL;
            }
            assets[assetCount].setUp(rate, wear);
            assetCount++;
            return assetCount - 1;
        }

        int setLink(int asset, int other, boolean is) {
            if (!hasAsset(asset) || !hasAsset(other)) {
                return UNKNOWN;
            }
            if (asset == other) {
                return BAD_VALUE;
            }
            if (assets[asset].isLinkedTo(other) == is) {
                return NONE;
            }
            assets[asset].links ^= 1 << other;
            assets[other].links ^= 1 << asset;
            return Integer.bitCount(assets[asset].links);
        }

        int setBar(int kind, int other, boolean is) {
            if (!within(kind, 0, bars.length - 1) || !within(other, 0, bars.length - 1)) {
                return BAD_VALUE;
            }
            if (doBar(kind, other) == is) {
                return NONE;
            }
            bars[kind] ^= 1 << other;
            if (kind != other) {
                bars[other] ^= 1 << kind;
            }
            return Integer.bitCount(bars[kind]);
        }

        int newCrew(int people, int skills) {
            if (!within(people, 1, MOST_PEOPLE) || !within(skills, 0, (1 << MOST_SKILLS) - 1)) {
                return BAD_VALUE;
            }
            if (crewCount >= crews.length) {
                return FULL;
            }
            crews[crewCount].setUp(people, skills);
            crewCount++;
            return crewCount - 1;
        }

        int newTask(int asset, int skill, int people, int kind, int hours, int from) {
            if (!hasAsset(asset)) {
                return UNKNOWN;
            }
            if (!within(skill, 0, MOST_SKILLS - 1) || !within(people, 1, MOST_PEOPLE)
                    || !within(kind, 0, KINDS - 1) || !within(hours, 1, MOST_HOURS)
                    || !within(from, hour, LAST_HOUR)) {
                return BAD_VALUE;
            }
            if (taskCount >= tasks.length) {
                return FULL;
            }
            tasks[taskCount].setUp(asset, skill, people, kind, hours, from);
            taskCount++;
            return taskCount - 1;
        }

        // work

        int startAsset(int asset) {
            if (!hasAsset(asset)) {
                return UNKNOWN;
            }
            if (tagsHanging(asset) > 0) {
                return NOT_POSSIBLE;
            }
            if (assets[asset].runs) {
                return NONE;
            }
            assets[asset].runs = true;
            return assetsRunning();
        }

        int stopAsset(int asset) {
            if (!hasAsset(asset)) {
                return UNKNOWN;
            }
            if (!assets[asset].runs) {
                return NONE;
            }
            assets[asset].runs = false;
            return assetsRunning();
        }

        int hangTag(int task, int crew) {
            if (!hasTask(task) || !hasCrew(crew)) {
                return UNKNOWN;
            }
            Task t = tasks[task];
            if (t.state != WAITS || isRunning(t.asset) || !canServe(crew, t)) {
                return NOT_POSSIBLE;
            }
            t.height = tagsHanging(t.asset);
            t.state = HUNG;
            t.crew = crew;
            return t.height + 1;
        }

        int beginTask(int task) {
            if (!hasTask(task)) {
                return UNKNOWN;
            }
            if (reasonAgainst(task) != 0) {
                return NOT_POSSIBLE;
            }
            Task t = tasks[task];
            t.state = IN_WORK;
            t.left = t.hours;
            return hour + t.hours;
        }

        int liftTag(int task, int crew) {
            if (!hasTask(task) || !hasCrew(crew)) {
                return UNKNOWN;
            }
            Task t = tasks[task];
            if (t.state != HUNG && t.state != FINISHED) {
                return NOT_POSSIBLE;
            }
            if (t.crew != crew || taskOfTag(t.asset, 0) != task) {
                return NOT_POSSIBLE;
            }
            if (t.state == FINISHED) {
                t.state = DONE;
            } else {
                t.state = WAITS;
                t.crew = NONE;
            }
            return tagsHanging(t.asset);
        }

        int cancelTask(int task) {
            if (!hasTask(task)) {
                return UNKNOWN;
            }
            if (tasks[task].state != WAITS) {
                return NOT_POSSIBLE;
            }
            tasks[task].state = CANCELLED;
            return tasks[task].slips;
        }

        int passHours(int hours) {
            if (!within(hours, 1, MOST_HOURS)) {
                return BAD_VALUE;
            }
            if (hour + hours > LAST_HOUR) {
                return NOT_POSSIBLE;
            }
            int finished = 0;
            for (int i = 0; i < hours; i++) {
                runAssets();
                finished += workOnTasks();
                hour++;
                slipTasks();
            }
            return finished;
        }

        private void runAssets() {
            for (int i = 0; i < assetCount; i++) {
                if (assets[i].runs) {
                    assets[i].runForAnHour();
                }
            }
        }

        private int workOnTasks() {
            int finished = 0;
            for (int i = 0; i < taskCount; i++) {
                Task t = tasks[i];
                if (t.state == IN_WORK) {
                    t.left--;
                    if (t.left <= 0) {
                        t.state = FINISHED;
                        finished++;
                        mendAsset(t.asset);
                    }
                }
            }
            return finished;
        }

        private void mendAsset(int asset) {
            if (hasAsset(asset)) {
                assets[asset].mend();
            }
        }

        private void slipTasks() {
            for (int i = 0; i < taskCount; i++) {
                Task t = tasks[i];
                if (t.isIn(WAITS, HUNG) && t.isTooLateAt(hour)) {
                    t.slip();
                }
            }
        }

        // what is told

        /** The reason why a task cannot begin, 0 if there is none. */
        int reasonAgainst(int task) {
            if (!hasTask(task)) {
                return 0;
            }
            Task t = tasks[task];
            if (t.state != HUNG) {
                return 1;
            }
            if (hour < t.from) {
                return 2;
            }
            if (t.isTooLateAt(hour)) {
                return 3;
            }
            return barrierOf(task) != NONE ? 4 : 0;
        }

        /** The lowest task by which one is barred, or NONE. */
        int barrierOf(int task) {
            if (!hasTask(task) || tasks[task].state == IN_WORK) {
                return NONE;
            }
            Task t = tasks[task];
            for (int i = 0; i < taskCount; i++) {
                Task other = tasks[i];
                if (other.state == IN_WORK && doBar(t.kind, other.kind)
                        && areNear(t.asset, other.asset)) {
                    return i;
                }
            }
            return NONE;
        }

        private boolean doBar(int kind, int other) {
            return kind >= 0 && kind < bars.length && (bars[kind] >> other & 1) == 1;
        }

        private boolean areNear(int asset, int other) {
            return asset == other
                    || asset >= 0 && asset < assetCount && assets[asset].isLinkedTo(other);
        }

        private boolean isRunning(int asset) {
            return hasAsset(asset) && assets[asset].runs;
        }

        private boolean canServe(int crew, Task t) {
            return crews[crew].has(t.skill) && crews[crew].people - busyPeople(crew) >= t.people;
        }

        /** The lowest crew that could hang the tag of a task, or NONE. */
        int firstCrewFor(int task) {
            if (!hasTask(task) || tasks[task].state != WAITS) {
                return NONE;
            }
            for (int i = 0; i < crewCount; i++) {
                if (canServe(i, tasks[task])) {
                    return i;
                }
            }
            return NONE;
        }

        int tagsHanging(int asset) {
            return tasksOfAsset(asset, HUNG, FINISHED);
        }

        /** The task whose tag hangs at a place, from the uppermost one on, or NONE. */
        int taskOfTag(int asset, int place) {
            int height = tagsHanging(asset) - 1 - place;
            for (int i = 0; i < taskCount; i++) {
                Task t = tasks[i];
                if (t.asset == asset && t.tagHangs() && t.height == height) {
                    return i;
                }
            }
            return NONE;
        }

        int tasksOfAsset(int asset, int firstState, int lastState) {
            int sum = 0;
            for (int i = 0; i < taskCount; i++) {
                if (tasks[i].asset == asset && tasks[i].isIn(firstState, lastState)) {
                    sum++;
                }
            }
            return sum;
        }

        int tasksOfCrew(int crew, int firstState, int lastState) {
            int sum = 0;
            for (int i = 0; i < taskCount; i++) {
                if (tasks[i].crew == crew && tasks[i].isIn(firstState, lastState)) {
                    sum++;
                }
            }
            return sum;
        }

        int tasksIn(int firstState, int lastState) {
            int sum = 0;
            for (int i = 0; i < taskCount; i++) {
                if (tasks[i].isIn(firstState, lastState)) {
                    sum++;
                }
            }
            return sum;
        }

        int busyPeople(int crew) {
            int sum = 0;
            for (int i = 0; i < taskCount; i++) {
                if (tasks[i].crew == crew && tasks[i].tagHangs()) {
                    sum += tasks[i].people;
                }
            }
            return sum;
        }

        int allBusyPeople() {
            int sum = 0;
            for (int i = 0; i < taskCount; i++) {
                if (tasks[i].tagHangs()) {
                    sum += tasks[i].people;
                }
            }
            return sum;
        }

        int assetsRunning() {
            int sum = 0;
            for (int i = 0; i < assetCount; i++) {
                if (assets[i].runs) {
                    sum++;
                }
            }
            return sum;
        }

        int slipsSoFar() {
            int sum = 0;
            for (int i = 0; i < taskCount; i++) {
                sum += tasks[i].slips;
            }
            return sum;
        }
    }

    /** A ring of states; the oldest one is written over when there is no more room. */
    private static final class History {
        final Plant[] states = new Plant[MOST_STATES];
        int oldest = 0;
        int size = 0;

        History() {
            for (int i = 0; i < states.length; i++) {
                states[i] = new Plant();
            }
        }

        void add(Plant state) {
            states[(oldest + size) % MOST_STATES].copyFrom(state);
            if (size < MOST_STATES) {
                size++;
            } else {
                oldest = (oldest + 1) % MOST_STATES;
            }
        }

        /** Copies the latest state into a row and drops it; answers how many are left, or NONE. */
        int takeBack(Plant into) {
            if (size <= 0) {
                return NONE;
            }
            size--;
            into.copyFrom(states[(oldest + size) % MOST_STATES]);
            return size;
        }
    }

    private static final class Order {
        char verb = 'p';
        /** The task, the asset or the hours. */
        int number = 0;
        int crew = 0;
    }

    /** The text, and the orders that were read from it. */
    private static final class Orders {
        static final int NO_FAULT = -1;
        /** An order has two characters at least, and a ";" stands between two. */
        static final int MOST_ORDERS = (MOST_CHARACTERS + 1) / 3;

        final char[] text = new char[MOST_CHARACTERS];
        int length = 0;
        final Order[] rows = new Order[MOST_ORDERS];
        int count = 0;
        /** The index of the next character; where reading failed, that of the fault. */
        int at = 0;

        Orders() {
            for (int i = 0; i < rows.length; i++) {
                rows[i] = new Order();
            }
        }

        int append(char character) {
            if (length >= text.length) {
                return FULL;
            }
            text[length] = character;
            length++;
            return length;
        }

        int clear() {
            int had = length;
            length = 0;
            return had;
        }

        /** Reads all orders; answers the index of the fault, or NO_FAULT. */
        int read() {
            at = 0;
            count = 0;
            for (int i = 0; i < rows.length; i++) {
                if (!readOrder(rows[i])) {
                    return at;
                }
                count = i + 1;
                if (at >= length) {
                    return NO_FAULT;
                }
                if (!readSign(';')) {
                    return at;
                }
            }
            // so many orders, each with its ";", fill the whole text: it ends too early
            return at;
        }

        private boolean readOrder(Order order) {
            if (at >= length || at >= text.length) {
                return false;
            }
            char verb = text[at];
            order.verb = verb;
            if (verb == 'h' || verb == 'l') {
                at++;
                return readNumber(order) && readSign('c') && readCrew(order);
            }
            if (verb == 'b' || verb == 'p') {
                at++;
                return readNumber(order);
            }
            if (verb == 'r' || verb == 's') {
                at++;
                return readAsset(order);
            }
            return false;
        }

        /** Reads one or two digits; no digit follows a zero in front. */
        private boolean readNumber(Order order) {
            if (!isAtDigit()) {
                return false;
            }
            order.number = readDigit();
            if (order.number != 0 && isAtDigit()) {
                order.number = 10 * order.number + readDigit();
            }
            return true;
        }

        private boolean readAsset(Order order) {
            if (!isAtDigit()) {
                return false;
            }
            order.number = readDigit();
            return true;
        }

        private boolean readCrew(Order order) {
            if (!isAtDigit()) {
                return false;
            }
            order.crew = readDigit();
            return true;
        }

        private boolean readSign(char sign) {
            if (at >= length || at >= text.length || text[at] != sign) {
                return false;
            }
            at++;
            return true;
        }

        private boolean isAtDigit() {
            return at < length && at < text.length && text[at] >= '0' && text[at] <= '9';
        }

        private int readDigit() {
            if (at >= text.length) {
                return 0;
            }
            at++;
            return text[at - 1] - '0';
        }
    }
}
