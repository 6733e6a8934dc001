import java.util.ArrayDeque;
import java.util.ArrayList;
import java.util.Deque;
import java.util.HashSet;
import java.util.List;
import java.util.Set;
import java.util.regex.Matcher;
import java.util.regex.Pattern;

/**
 * The document once more, written in another way than the program: stacks of tags are held as
 * stacks, links and bars as sets of pairs, the text's orders are a regular expression, and each
 * state that is recorded is a whole copy.
 */
final class Model {
    private static final Pattern ORDER = Pattern.compile(
            "[hl](0|[1-9][0-9]?)c[0-9]|b(0|[1-9][0-9]?)|[rs][0-9]|p(0|[1-9][0-9]?)");
    private static final Pattern ORDERS =
            Pattern.compile("(" + ORDER + ")(;(" + ORDER + "))*");

    private static final class Job {
        int asset, skill, people, kind, hours, from, to, state, crew = -5, left, slips;

        Job copy() {
            Job j = new Job();
            j.asset = asset;
            j.skill = skill;
            j.people = people;
            j.kind = kind;
            j.hours = hours;
            j.from = from;
            j.to = to;
            j.state = state;
            j.crew = crew;
            j.left = left;
            j.slips = slips;
            return j;
        }
    }

    private static final class State {
        int hour;
        int slips;
        List<int[]> machines = new ArrayList<>();
        List<float[]> reals = new ArrayList<>();
        List<Deque<Integer>> tags = new ArrayList<>();
        List<int[]> crews = new ArrayList<>();
        List<Job> jobs = new ArrayList<>();
        Set<List<Integer>> links = new HashSet<>();
        Set<List<Integer>> bars = new HashSet<>();

        State copy() {
            State s = new State();
            s.hour = hour;
            s.slips = slips;
            machines.forEach(m -> s.machines.add(m.clone()));
            reals.forEach(r -> s.reals.add(r.clone()));
            tags.forEach(t -> s.tags.add(new ArrayDeque<>(t)));
            crews.forEach(c -> s.crews.add(c.clone()));
            jobs.forEach(j -> s.jobs.add(j.copy()));
            s.links.addAll(links);
            s.bars.addAll(bars);
            return s;
        }
    }

    private State now = new State();
    private State snapshot = null;
    private final Deque<State> past = new ArrayDeque<>();
    private final StringBuilder text = new StringBuilder();

    private static boolean outside(int value, int least, int most) {
        return value < least || value > most;
    }

    private boolean noAsset(int a) {
        return outside(a, 0, now.machines.size() - 1);
    }

    private boolean noCrew(int c) {
        return outside(c, 0, now.crews.size() - 1);
    }

    private boolean noTask(int t) {
        return outside(t, 0, now.jobs.size() - 1);
    }

    private void record(State s) {
        past.push(s);
        while (past.size() > 4) {
            past.removeLast();
        }
    }

    /** One act, by name; nothing is changed or recorded unless it is done. */
    int act(String name, int... a) {
        State was = now.copy();
        int answer = actAlone(name, a);
        if (answer < 0) {
            now = was;
        } else {
            record(was);
        }
        return answer;
    }

    private int actAlone(String name, int... a) {
        switch (name) {
            case "addAsset": return addAsset(a[0], a[1]);
            case "link": return link(a[0], a[1], a[2] != 0);
            case "bar": return bar(a[0], a[1], a[2] != 0);
            case "addCrew": return addCrew(a[0], a[1]);
            case "addTask": return addTask(a);
            case "run": return run(a[0], 1);
            case "stop": return run(a[0], 0);
            case "hang": return hang(a[0], a[1]);
            case "begin": return begin(a[0]);
            case "lift": return lift(a[0], a[1]);
            case "cancel": return cancel(a[0]);
            case "pass": return pass(a[0]);
            case "perform": return perform();
            case "restore": return restore();
            default: throw new IllegalArgumentException(name);
        }
    }

    private int addAsset(int rate, int wear) {
        if (outside(rate, 1, 100) || outside(wear, 1, 200)) {
            return -2;
        }
        if (now.machines.size() == 8) {
            return -3;
        }
        now.machines.add(new int[] {rate, 0});
        now.reals.add(new float[] {1.0f, 0.0f, (float) wear / 1000.0f});
        now.tags.add(new ArrayDeque<>());
        return now.machines.size() - 1;
    }

    private static int toggle(Set<List<Integer>> pairs, int one, int other, boolean is, int most) {
        if (pairs.contains(List.of(one, other)) == is) {
            return -5;
        }
        if (is) {
            pairs.add(List.of(one, other));
            pairs.add(List.of(other, one));
        } else {
            pairs.remove(List.of(one, other));
            pairs.remove(List.of(other, one));
        }
        int count = 0;
        for (int i = 0; i < most; i++) {
            count += pairs.contains(List.of(one, i)) ? 1 : 0;
        }
        return count;
    }

    private int link(int asset, int other, boolean is) {
        if (noAsset(asset) || noAsset(other)) {
            return -1;
        }
        return asset == other ? -2 : toggle(now.links, asset, other, is, 8);
    }

    private int bar(int kind, int other, boolean is) {
        if (outside(kind, 0, 4) || outside(other, 0, 4)) {
            return -2;
        }
        return toggle(now.bars, kind, other, is, 5);
    }

    private int addCrew(int people, int skills) {
        if (outside(people, 1, 6) || outside(skills, 0, 15)) {
            return -2;
        }
        if (now.crews.size() == 5) {
            return -3;
        }
        now.crews.add(new int[] {people, skills});
        return now.crews.size() - 1;
    }

    private int addTask(int... a) {
        if (noAsset(a[0])) {
            return -1;
        }
        if (outside(a[1], 0, 3) || outside(a[2], 1, 6) || outside(a[3], 0, 4)
                || outside(a[4], 1, 48) || outside(a[5], now.hour, 2000)) {
            return -2;
        }
        if (now.jobs.size() == 24) {
            return -3;
        }
        Job j = new Job();
        j.asset = a[0];
        j.skill = a[1];
        j.people = a[2];
        j.kind = a[3];
        j.hours = a[4];
        j.from = a[5];
        j.to = a[5] + 2 * a[4] + 6;
        now.jobs.add(j);
        return now.jobs.size() - 1;
    }

    private int run(int asset, int is) {
        if (noAsset(asset)) {
            return -1;
        }
        if (is == 1 && !now.tags.get(asset).isEmpty()) {
            return -4;
        }
        if (now.machines.get(asset)[1] == is) {
            return -5;
        }
        now.machines.get(asset)[1] = is;
        return count(2);
    }

    private boolean canHang(Job j, int crew) {
        int[] c = now.crews.get(crew);
        return (c[1] & (1 << j.skill)) != 0 && c[0] - busy(crew) >= j.people;
    }

    private int hang(int task, int crew) {
        if (noTask(task) || noCrew(crew)) {
            return -1;
        }
        Job j = now.jobs.get(task);
        if (j.state != 0 || now.machines.get(j.asset)[1] == 1 || !canHang(j, crew)) {
            return -4;
        }
        j.state = 1;
        j.crew = crew;
        now.tags.get(j.asset).push(task);
        return now.tags.get(j.asset).size();
    }

    private int begin(int task) {
        if (noTask(task)) {
            return -1;
        }
        if (reason(task) != 0) {
            return -4;
        }
        Job j = now.jobs.get(task);
        j.state = 2;
        j.left = j.hours;
        return now.hour + j.hours;
    }

    private int lift(int task, int crew) {
        if (noTask(task) || noCrew(crew)) {
            return -1;
        }
        Job j = now.jobs.get(task);
        if ((j.state != 1 && j.state != 3) || j.crew != crew
                || now.tags.get(j.asset).peek() != task) {
            return -4;
        }
        now.tags.get(j.asset).pop();
        if (j.state == 1) {
            j.crew = -5;
        }
        j.state = j.state == 1 ? 0 : 4;
        return now.tags.get(j.asset).size();
    }

    private int cancel(int task) {
        if (noTask(task)) {
            return -1;
        }
        Job j = now.jobs.get(task);
        if (j.state != 0) {
            return -4;
        }
        j.state = 6;
        return j.slips;
    }

    private int pass(int hours) {
        if (outside(hours, 1, 48)) {
            return -2;
        }
        if (now.hour + hours > 2000) {
            return -4;
        }
        int finished = 0;
        for (int i = 0; i < hours; i++) {
            finished += passOne();
        }
        return finished;
    }

    private int passOne() {
        int finished = 0;
        for (int i = 0; i < now.machines.size(); i++) {
            if (now.machines.get(i)[1] == 1) {
                float[] r = now.reals.get(i);
                r[1] = r[1] + (float) now.machines.get(i)[0] * r[0];
                r[0] = wear(r[0], r[2]);
            }
        }
        for (Job j : now.jobs) {
            if (j.state == 2 && --j.left == 0) {
                j.state = 3;
                finished++;
                float[] r = now.reals.get(j.asset);
                r[0] = r[0] + (1.0f - r[0]) * 0.75f;
            }
        }
        now.hour++;
        for (Job j : now.jobs) {
            if (j.state > 1 || now.hour + j.hours <= j.to) {
                continue;
            }
            if (j.state == 0 && j.slips > 2) {
                j.state = 5;
            } else {
                j.from += 24;
                j.to += 24;
                j.slips++;
                now.slips++;
            }
        }
        return finished;
    }

    private static float wear(float health, float wear) {
        return Math.max(0.01f, health - health * wear);
    }

    int type(char c) {
        if (text.length() == 60) {
            return -3;
        }
        return text.append(c).length();
    }

    int clearText() {
        int had = text.length();
        text.setLength(0);
        return had;
    }

    /** The fault of the text is the end of its longest beginning that an allowed text can have. */
    private int perform() {
        if (!ORDERS.matcher(text).matches()) {
            int at = 0;
            while (at < text.length() && canGoOn(text.substring(0, at + 1))) {
                at++;
            }
            return -100 - at;
        }
        String[] orders = text.toString().split(";");
        for (String order : orders) {
            int answer = follow(order);
            if (answer < 0 && answer != -5) {
                return answer;
            }
        }
        return orders.length;
    }

    private static boolean canGoOn(String beginning) {
        Matcher m = ORDERS.matcher(beginning);
        return m.matches() || m.hitEnd();
    }

    private int follow(String order) {
        String[] numbers = order.substring(1).split("c");
        int first = Integer.parseInt(numbers[0]);
        int second = numbers.length > 1 ? Integer.parseInt(numbers[1]) : 0;
        switch (order.charAt(0)) {
            case 'h': return hang(first, second);
            case 'l': return lift(first, second);
            case 'b': return begin(first);
            case 'r': return run(first, 1);
            case 's': return run(first, 0);
            default: return pass(first);
        }
    }

    int undo() {
        if (past.isEmpty()) {
            return -5;
        }
        now = past.pop();
        return past.size();
    }

    int keep() {
        snapshot = now.copy();
        return now.hour;
    }

    private int restore() {
        if (snapshot == null) {
            return -5;
        }
        now = snapshot.copy();
        return now.hour;
    }

    float real(int asset, int what) {
        return noAsset(asset) || outside(what, 0, 2) ? Float.NaN : now.reals.get(asset)[what];
    }

    float healthIn(int asset, int hours) {
        if (noAsset(asset) || outside(hours, 0, 200)) {
            return Float.NaN;
        }
        float health = now.reals.get(asset)[0];
        for (int i = hours; i > 0; i--) {
            health = wear(health, now.reals.get(asset)[2]);
        }
        return health;
    }

    int hoursTo(int asset, int percent) {
        if (noAsset(asset)) {
            return -1;
        }
        if (outside(percent, 1, 100)) {
            return -2;
        }
        for (int i = 0; i <= 200; i++) {
            if (healthIn(asset, i) < (float) percent / 100.0f) {
                return i;
            }
        }
        return -5;
    }

    int asset(int asset, int what) {
        if (noAsset(asset)) {
            return -1;
        }
        switch (what) {
            case 0: return now.machines.get(asset)[1];
            case 1: return now.tags.get(asset).size();
            case 2: return tagAt(asset, 0);
            case 3: {
                int bits = 0;
                for (int i = 0; i < 8; i++) {
                    bits += now.links.contains(List.of(i, asset)) ? 1 << i : 0;
                }
                return bits;
            }
            case 4: return (int) now.jobs.stream().filter(j -> j.asset == asset && j.state <= 3).count();
            case 5: return (int) now.jobs.stream().filter(j -> j.asset == asset && j.state == 4).count();
            case 6: return (int) (now.reals.get(asset)[0] * 1000.0f);
            case 7: return (int) now.reals.get(asset)[1];
            default: return -2;
        }
    }

    int tagAt(int asset, int place) {
        if (noAsset(asset)) {
            return -1;
        }
        if (place < 0) {
            return -2;
        }
        List<Integer> fromTheTop = new ArrayList<>(now.tags.get(asset));
        return place < fromTheTop.size() ? fromTheTop.get(place) : -5;
    }

    private int busy(int crew) {
        return now.jobs.stream().filter(j -> j.crew == crew && j.state >= 1 && j.state <= 3)
                .mapToInt(j -> j.people).sum();
    }

    int crew(int crew, int what) {
        if (noCrew(crew)) {
            return -1;
        }
        switch (what) {
            case 0: return now.crews.get(crew)[0];
            case 1: return now.crews.get(crew)[1];
            case 2: return busy(crew);
            case 3: return (int) now.jobs.stream()
                    .filter(j -> j.crew == crew && j.state >= 1 && j.state <= 3).count();
            case 4: return (int) now.jobs.stream().filter(j -> j.crew == crew && j.state == 4).count();
            default: return -2;
        }
    }

    private int barrier(int task) {
        Job j = now.jobs.get(task);
        for (int i = 0; i < now.jobs.size() && j.state != 2; i++) {
            Job o = now.jobs.get(i);
            boolean near = o.asset == j.asset || now.links.contains(List.of(o.asset, j.asset));
            if (i != task && o.state == 2 && near && now.bars.contains(List.of(o.kind, j.kind))) {
                return i;
            }
        }
        return -5;
    }

    private int reason(int task) {
        Job j = now.jobs.get(task);
        return j.state != 1 ? 1 : now.hour < j.from ? 2 : now.hour + j.hours > j.to ? 3
                : barrier(task) >= 0 ? 4 : 0;
    }

    int task(int task, int what) {
        if (noTask(task)) {
            return -1;
        }
        if (outside(what, 0, 12)) {
            return -2;
        }
        Job j = now.jobs.get(task);
        int left = j.state == 2 ? j.left : -5;
        int[] told = {j.asset, j.state, j.skill, j.people, j.kind, j.hours, j.from, j.to, j.crew, left,
            j.slips, reason(task), barrier(task)};
        return told[what];
    }

    int crewFor(int task) {
        if (noTask(task)) {
            return -1;
        }
        for (int c = 0; c < now.crews.size() && now.jobs.get(task).state == 0; c++) {
            if (canHang(now.jobs.get(task), c)) {
                return c;
            }
        }
        return -5;
    }

    int count(int what) {
        if (what >= 5 && what <= 11) {
            return (int) now.jobs.stream().filter(j -> j.state == what - 5).count();
        }
        switch (what) {
            case 0: return now.hour;
            case 1: return now.machines.size();
            case 2: return (int) now.machines.stream().filter(m -> m[1] == 1).count();
            case 3: return now.crews.size();
            case 4: return now.jobs.size();
            case 12: return now.tags.stream().mapToInt(Deque::size).sum();
            case 13: return now.slips;
            case 14: {
                int people = 0;
                for (int c = 0; c < now.crews.size(); c++) {
                    people += busy(c);
                }
                return people;
            }
            case 15: return past.size();
            case 16: return text.length();
            default: return -2;
        }
    }
}
