import java.io.IOException;
import java.lang.reflect.Constructor;
import java.lang.reflect.Field;
import java.lang.reflect.Method;
import java.lang.reflect.Modifier;
import java.nio.file.Files;
import java.nio.file.Path;
import java.util.Set;
import java.util.TreeSet;
import java.util.regex.Matcher;
import java.util.regex.Pattern;

/** The public face, and those rules of LANGUAGE.md that can be seen from outside or from the text. */
public final class FaceTest {
    private static final Set<String> FACE = Set.of("type(int)", "wipe()", "machine(int)", "drop()", "free(int,int)",
        "anew()", "ofMachine(int,int)", "step(int,int,int)", "stateOf(int,int)", "leads(int,int)", "joint(int,int)",
        "why(int,int,int)", "wave(int)", "some(int,int)", "go(int)", "back()", "at()", "finish(int)",
        "word(int,int)", "many(int)");

    public static void main(String[] args) throws IOException {
        constants();
        methods();
        nestedClasses();
        text(args.length > 0 ? args[0] : "src/main/java/LeastBars.java");
        Due.close();
    }

    private static void constants() {
        Due.part("face, constants");
        Due.is("UNKNOWN", LeastBars.UNKNOWN, -1);
        Due.is("OUTSIDE", LeastBars.OUTSIDE, -2);
        Due.is("STATE", LeastBars.STATE, -3);
        Due.is("FULL", LeastBars.FULL, -4);
        Due.is("NONE", LeastBars.NONE, -9);
        Set<String> shown = new TreeSet<>();
        for (Field field : LeastBars.class.getDeclaredFields()) {
            if (!Modifier.isPrivate(field.getModifiers())) {
                shown.add(Modifier.toString(field.getModifiers()) + " " + field.getType() + " " + field.getName());
            }
        }
        Set<String> due = new TreeSet<>();
        for (String name : new String[] {"UNKNOWN", "OUTSIDE", "STATE", "FULL", "NONE"}) {
            due.add("public static final int " + name);
        }
        Due.holds("just the five constants: " + shown, shown.equals(due));
    }

    private static void methods() {
        Due.part("face, methods");
        Due.is("public final", LeastBars.class.getModifiers(), Modifier.PUBLIC | Modifier.FINAL);
        Constructor<?>[] made = LeastBars.class.getDeclaredConstructors();
        Due.is("one constructor", made.length, 1);
        Due.is("without arguments", made[0].getParameterCount(), 0);
        Due.holds("public", Modifier.isPublic(made[0].getModifiers()));
        Set<String> shown = new TreeSet<>();
        for (Method method : LeastBars.class.getDeclaredMethods()) {
            if (!Modifier.isPrivate(method.getModifiers())) {
                Due.holds(method + " answers an int", method.getReturnType() == int.class);
                Due.is(method + " is public alone", method.getModifiers(), Modifier.PUBLIC);
                shown.add(signature(method));
            }
        }
        Due.holds("just the document's methods: " + shown, shown.equals(new TreeSet<>(FACE)));
    }

    private static String signature(Method method) {
        StringBuilder text = new StringBuilder(method.getName()).append('(');
        for (Class<?> type : method.getParameterTypes()) {
            text.append(text.charAt(text.length() - 1) == '(' ? "" : ",").append(type.getName());
        }
        return text.append(')').toString();
    }

    private static boolean isNameOfFace(String name) {
        return FACE.stream().anyMatch(one -> one.startsWith(name + "("));
    }

    private static void nestedClasses() {
        Due.part("LANGUAGE.md, rules 1, 2, 5, 11");
        Class<?>[] nested = LeastBars.class.getDeclaredClasses();
        Due.holds("at most twelve classes", nested.length < 12);
        for (Class<?> one : nested) {
            Due.holds(one + " is private and static",
                Modifier.isPrivate(one.getModifiers()) && Modifier.isStatic(one.getModifiers()));
            classKeepsToRules(one);
        }
        classKeepsToRules(LeastBars.class);
    }

    private static void classKeepsToRules(Class<?> one) {
        int own = 0;
        for (Field field : one.getDeclaredFields()) {
            if (!Modifier.isStatic(field.getModifiers())) {
                own++;
            } else {
                Due.holds(field + " is final", Modifier.isFinal(field.getModifiers()));
            }
        }
        Due.holds(one + " has at most twenty fields", own <= 20);
        for (Method method : one.getDeclaredMethods()) {
            Due.holds(method + " takes at most seven", method.getParameterCount() <= 7);
            if (!Modifier.isPublic(method.getModifiers())) {
                Due.holds(method + " bears no name of the face", !isNameOfFace(method.getName()));
            }
        }
    }

    private static void text(String path) throws IOException {
        Due.part("LANGUAGE.md, rules 2 to 6");
        String text = Files.readString(Path.of(path));
        Due.holds("signs are ASCII", text.chars().allMatch(c -> c < 128));
        String code = text.replaceAll("(?s)/\\*.*?\\*/", "").replaceAll("//[^\n]*", "");
        String[] banned = {"\\bthrow", "\\btry\\b", "\\bcatch\\b", "\\bsynchronized\\b", "\\bassert\\b", "->", "::",
            "\\bpackage\\b", "\\bequals\\b", "\\bhashCode\\b", "\\btoString\\b", "Exact\\b", "static \\{", "@",
            "\\bSystem\\.(?!arraycopy)", "\\bdouble\\b", "\\bfloat\\b", "\\bwhile \\(true\\)", "for \\(;;"};
        for (String one : banned) {
            Due.holds("no " + one, !Pattern.compile(one).matcher(code).find());
        }
        Matcher imports = Pattern.compile("import ([^;]*);").matcher(code);
        while (imports.find()) {
            Due.holds("import " + imports.group(1), imports.group(1).equals("java.util.Arrays"));
        }
        methodsAreShort(code);
    }

    private static void methodsAreShort(String code) {
        int begun = -1;
        String[] lines = code.split("\n");
        String margin = "";
        for (int i = 0; i < lines.length; i++) {
            Matcher head = Pattern.compile("^( +)(?:public|private) .*\\) \\{$").matcher(lines[i]);
            if (head.find()) {
                begun = i;
                margin = head.group(1);
            } else if (begun >= 0 && lines[i].equals(margin + "}")) {
                Due.holds("at most sixty lines from " + lines[begun].trim(), i - begun < 60);
                begun = -1;
            }
        }
    }
}
