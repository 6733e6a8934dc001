import java.util.ArrayList;
import java.util.List;
import java.util.function.ToIntFunction;

/**
 * An object together with the calls that made it what it is, so that it can be made again: nothing
 * is promised of an object behind its 512th call, and some looks at one (undo(), perform()) change
 * it, so each look has a twin of its own.
 */
final class Replay {
    private final List<ToIntFunction<TagWindows>> calls = new ArrayList<>();
    private final TagWindows x = new TagWindows();
    /** What Told.whole() said of it, until the next call. */
    private String whole = null;

    /** Makes a call, and keeps it in mind for the twins. */
    int call(ToIntFunction<TagWindows> f) {
        calls.add(f);
        whole = null;
        return f.applyAsInt(x);
    }

    /** Another object that has gone through the same calls. */
    TagWindows twin() {
        TagWindows y = new TagWindows();
        for (ToIntFunction<TagWindows> f : calls) {
            f.applyAsInt(y);
        }
        return y;
    }

    /** Another one that has gone through the same calls, and some more. */
    Replay and(List<ToIntFunction<TagWindows>> more) {
        Replay r = new Replay();
        calls.forEach(r::call);
        more.forEach(r::call);
        return r;
    }

    Replay and(ToIntFunction<TagWindows> more) {
        return and(List.of(more));
    }

    Replay copy() {
        return and(List.of());
    }

    String whole() {
        if (whole == null) {
            whole = Told.whole(this);
        }
        return whole;
    }

    int addAsset(int rate, int wear) {
        return call(p -> p.addAsset(rate, wear));
    }

    int link(int asset, int other, boolean is) {
        return call(p -> p.link(asset, other, is));
    }

    int bar(int kind, int other, boolean is) {
        return call(p -> p.bar(kind, other, is));
    }

    int addCrew(int people, int skills) {
        return call(p -> p.addCrew(people, skills));
    }

    int addTask(int asset, int skill, int people, int kind, int hours, int from) {
        return call(p -> p.addTask(asset, skill, people, kind, hours, from));
    }

    int run(int asset) {
        return call(p -> p.run(asset));
    }

    int stop(int asset) {
        return call(p -> p.stop(asset));
    }

    int hang(int task, int crew) {
        return call(p -> p.hang(task, crew));
    }

    int begin(int task) {
        return call(p -> p.begin(task));
    }

    int lift(int task, int crew) {
        return call(p -> p.lift(task, crew));
    }

    int cancel(int task) {
        return call(p -> p.cancel(task));
    }

    int pass(int hours) {
        return call(p -> p.pass(hours));
    }

    int type(char character) {
        return call(p -> p.type(character));
    }

    int clearText() {
        return call(p -> p.clearText());
    }

    int perform() {
        return call(p -> p.perform());
    }

    int undo() {
        return call(p -> p.undo());
    }

    int keep() {
        return call(p -> p.keep());
    }

    int restore() {
        return call(p -> p.restore());
    }

    float real(int asset, int what) {
        return x.real(asset, what);
    }

    float healthIn(int asset, int hours) {
        return x.healthIn(asset, hours);
    }

    int hoursTo(int asset, int percent) {
        return x.hoursTo(asset, percent);
    }

    int asset(int asset, int what) {
        return x.asset(asset, what);
    }

    int tagAt(int asset, int place) {
        return x.tagAt(asset, place);
    }

    int crew(int crew, int what) {
        return x.crew(crew, what);
    }

    int task(int task, int what) {
        return x.task(task, what);
    }

    int crewFor(int task) {
        return x.crewFor(task);
    }

    int count(int what) {
        return x.count(what);
    }
}
