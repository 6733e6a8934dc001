import java.lang.reflect.Constructor;
import java.lang.reflect.Field;
import java.lang.reflect.Method;
import java.lang.reflect.Modifier;
import java.util.ArrayList;
import java.util.List;
import java.util.Set;
import java.util.TreeSet;

/** The face of the class is that of the document, and nothing else of it can be seen. */
public final class FaceTest {
    private static final String[] METHODS = {
        "int addAsset(int,int)", "int link(int,int,boolean)", "int bar(int,int,boolean)",
        "int addCrew(int,int)", "int addTask(int,int,int,int,int,int)", "int run(int)",
        "int stop(int)", "int hang(int,int)", "int begin(int)", "int lift(int,int)",
        "int cancel(int)", "int pass(int)", "int type(char)", "int clearText()", "int perform()",
        "int undo()", "int keep()", "int restore()", "float real(int,int)",
        "float healthIn(int,int)", "int hoursTo(int,int)", "int asset(int,int)",
        "int tagAt(int,int)", "int crew(int,int)", "int task(int,int)", "int crewFor(int)",
        "int count(int)"};
    private static final String[] CONSTANTS = {
        "UNKNOWN=-1", "BAD_VALUE=-2", "FULL=-3", "NOT_POSSIBLE=-4", "NONE=-5"};

    public static void main(String[] args) throws Exception {
        Class<?> face = TagWindows.class;
        Check.due("public and final", face.getModifiers(), Modifier.PUBLIC | Modifier.FINAL);
        methods(face);
        constants(face);
        Constructor<?>[] constructors = face.getDeclaredConstructors();
        Check.due("constructors", constructors.length, 1);
        Check.due("the constructor's parameters", constructors[0].getParameterCount(), 0);
        Check.due("the constructor is public", constructors[0].getModifiers(), Modifier.PUBLIC);
        for (Class<?> inside : face.getDeclaredClasses()) {
            Check.due(inside + " is private and static",
                    inside.getModifiers() & (Modifier.PRIVATE | Modifier.STATIC),
                    Modifier.PRIVATE | Modifier.STATIC);
        }
        hiddenNames(face);
        Check.end();
    }

    /** LANGUAGE.md, rule 1: "No private method bears the name of a public one." */
    private static void hiddenNames(Class<?> face) {
        Set<String> open = new TreeSet<>();
        for (Method m : face.getMethods()) {
            open.add(m.getName());
        }
        List<Method> hidden = new ArrayList<>(List.of(face.getDeclaredMethods()));
        for (Class<?> inside : face.getDeclaredClasses()) {
            hidden.addAll(List.of(inside.getDeclaredMethods()));
        }
        for (Method m : hidden) {
            boolean isOfTheFace = Modifier.isPublic(m.getModifiers());
            Check.due(m + " has a name of its own", !isOfTheFace && open.contains(m.getName()) ? 1 : 0, 0);
        }
    }

    private static void methods(Class<?> face) {
        Set<String> seen = new TreeSet<>();
        for (Method m : face.getDeclaredMethods()) {
            if (Modifier.isPrivate(m.getModifiers()) || m.isSynthetic()) {
                continue;
            }
            Check.due(m + " is public alone", m.getModifiers(), Modifier.PUBLIC);
            seen.add(signature(m));
        }
        Check.due("methods", seen.toString(), new TreeSet<>(Set.of(METHODS)).toString());
    }

    private static String signature(Method m) {
        StringBuilder s = new StringBuilder();
        for (Class<?> type : m.getParameterTypes()) {
            s.append(s.length() == 0 ? "" : ",").append(type);
        }
        return m.getReturnType() + " " + m.getName() + "(" + s + ")";
    }

    private static void constants(Class<?> face) throws Exception {
        Set<String> seen = new TreeSet<>();
        int wanted = Modifier.PUBLIC | Modifier.STATIC | Modifier.FINAL;
        for (Field f : face.getDeclaredFields()) {
            if (Modifier.isPrivate(f.getModifiers()) || f.isSynthetic()) {
                continue;
            }
            Check.due(f + " is a constant", f.getModifiers(), wanted);
            seen.add(f.getName() + "=" + f.getInt(null));
        }
        Check.due("constants", seen.toString(), new TreeSet<>(Set.of(CONSTANTS)).toString());
    }
}
