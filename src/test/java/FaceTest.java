import java.lang.reflect.Constructor;
import java.lang.reflect.Field;
import java.lang.reflect.Method;
import java.lang.reflect.Modifier;
import java.util.Set;
import java.util.TreeSet;

/** The public face, as another class sees it, and those rules of LANGUAGE.md that ask for it. */
public final class FaceTest {
    private static final Set<String> FACE = Set.of("type(int)", "wipe()", "machine(int)", "drop()", "free(int,int)",
        "anew()", "ofMachine(int,int)", "step(int,int,int)", "stateOf(int,int)", "leads(int,int)", "joint(int,int)",
        "why(int,int,int)", "wave(int)", "some(int,int)", "go(int)", "back()", "at()", "finish(int)",
        "word(int,int)", "many(int)");

    public static void main(String[] args) {
        constants();
        methods();
        nestedClasses();
        Due.close();
    }

    private static void constants() {
        Due.part("face, constants");
        Due.is("UNKNOWN", LeastBars.UNKNOWN, -1);
        Due.is("OUTSIDE", LeastBars.OUTSIDE, -2);
        Due.is("STATE", LeastBars.STATE, -3);
        Due.is("FULL", LeastBars.FULL, -4);
        Due.is("NONE", LeastBars.NONE, -9);
        Set<String> shown = new TreeSet<>();
        for (Field field : LeastBars.class.getDeclaredFields()) {
            if (!Modifier.isPrivate(field.getModifiers())) {
                shown.add(Modifier.toString(field.getModifiers()) + " " + field.getType() + " " + field.getName());
            }
        }
        Set<String> due = new TreeSet<>();
        for (String name : new String[] {"UNKNOWN", "OUTSIDE", "STATE", "FULL", "NONE"}) {
            due.add("public static final int " + name);
        }
        Due.holds("just the five constants: " + shown, shown.equals(due));
    }

    private static void methods() {
        Due.part("face, methods");
        Due.is("public final", LeastBars.class.getModifiers(), Modifier.PUBLIC | Modifier.FINAL);
        Constructor<?>[] made = LeastBars.class.getDeclaredConstructors();
        Due.is("one constructor", made.length, 1);
        Due.is("without arguments", made[0].getParameterCount(), 0);
        Due.holds("public", Modifier.isPublic(made[0].getModifiers()));
        Set<String> shown = new TreeSet<>();
        for (Method method : LeastBars.class.getDeclaredMethods()) {
            if (!Modifier.isPrivate(method.getModifiers())) {
                Due.holds(method + " answers an int", method.getReturnType() == int.class);
                Due.is(method + " is public alone", method.getModifiers(), Modifier.PUBLIC);
                shown.add(signature(method));
            }
        }
        Due.holds("just the document's methods: " + shown, shown.equals(new TreeSet<>(FACE)));
    }

    private static String signature(Method method) {
        StringBuilder text = new StringBuilder(method.getName()).append('(');
        for (Class<?> type : method.getParameterTypes()) {
            text.append(text.charAt(text.length() - 1) == '(' ? "" : ",").append(type.getName());
        }
        return text.append(')').toString();
    }

    private static boolean isNameOfFace(String name) {
        return FACE.stream().anyMatch(one -> one.startsWith(name + "("));
    }

    private static void nestedClasses() {
        Due.part("LANGUAGE.md, rule 1");
        for (Class<?> one : LeastBars.class.getDeclaredClasses()) {
            Due.holds(one + " is private and static",
                Modifier.isPrivate(one.getModifiers()) && Modifier.isStatic(one.getModifiers()));
            bearsNoNameOfTheFace(one);
        }
        bearsNoNameOfTheFace(LeastBars.class);
    }

    private static void bearsNoNameOfTheFace(Class<?> one) {
        for (Method method : one.getDeclaredMethods()) {
            if (!Modifier.isPublic(method.getModifiers())) {
                Due.holds(method + " bears no name of the face", !isNameOfFace(method.getName()));
            }
        }
    }
}
