import java.lang.reflect.Constructor;
import java.lang.reflect.Field;
import java.lang.reflect.Method;
import java.lang.reflect.Modifier;
import java.util.Set;
import java.util.TreeSet;

/** The public face is the document's, no more and no less. */
public final class FaceTest {
    private static final String[] FACE = {
        "poke(2)", "code(1)", "word(2)", "spawn(2)", "quantum(1)", "size(2)", "put(2)", "take(1)", "step(0)",
        "run(1)", "latest(0)", "state(1)", "about(2)", "stack(2)", "held(1)", "channel(2)", "memory(1)",
        "record(1)", "told(1)",
    };

    public static void main(String[] args) {
        Check.due("class is public and final",
            TurnTasks.class.getModifiers() & (Modifier.PUBLIC | Modifier.FINAL), Modifier.PUBLIC | Modifier.FINAL);
        methods();
        constants();
        constructors();
        Check.finish();
    }

    private static void methods() {
        Set<String> found = new TreeSet<>();
        Set<String> publicNames = new TreeSet<>();
        for (Method m : TurnTasks.class.getDeclaredMethods()) {
            if (Modifier.isPublic(m.getModifiers())) {
                found.add(m.getName() + "(" + m.getParameterCount() + ")");
                publicNames.add(m.getName());
                Check.due(m + " answers an int", m.getReturnType() == int.class ? 1 : 0, 1);
            }
        }
        Check.due("public methods " + found, found.equals(Set.of(FACE)) ? 1 : 0, 1);
        for (Method m : TurnTasks.class.getDeclaredMethods()) {
            if (!Modifier.isPublic(m.getModifiers())) {
                Check.due(m + " is private", Modifier.isPrivate(m.getModifiers()) ? 1 : 0, 1);
                Check.due(m + " bears a public name", publicNames.contains(m.getName()) ? 1 : 0, 0);
            }
        }
    }

    private static void constants() {
        Set<String> found = new TreeSet<>();
        for (Field f : TurnTasks.class.getDeclaredFields()) {
            if (!Modifier.isPrivate(f.getModifiers())) {
                found.add(f.getName());
            }
        }
        Set<String> face = Set.of("UNKNOWN", "OUTSIDE", "FULL", "RAN", "LATER", "IDLE", "DEAD");
        Check.due("public constants " + found, found.equals(face) ? 1 : 0, 1);
        int[] values = {TurnTasks.UNKNOWN, TurnTasks.OUTSIDE, TurnTasks.FULL, TurnTasks.RAN, TurnTasks.LATER,
            TurnTasks.IDLE, TurnTasks.DEAD};
        int[] dues = {-1, -2, -4, 0, 1, 2, 3};
        for (int i = 0; i < dues.length; i++) {
            Check.due("constant " + i, values[i], dues[i]);
        }
    }

    private static void constructors() {
        Constructor<?>[] all = TurnTasks.class.getDeclaredConstructors();
        Check.due("constructors", all.length, 1);
        Check.due("parameters of the constructor", all[0].getParameterCount(), 0);
        Check.due("constructor is public", Modifier.isPublic(all[0].getModifiers()) ? 1 : 0, 1);
    }
}
