import java.io.IOException;
import java.lang.reflect.Constructor;
import java.lang.reflect.Executable;
import java.lang.reflect.Field;
import java.lang.reflect.Method;
import java.lang.reflect.Modifier;
import java.nio.file.Files;
import java.nio.file.Path;
import java.util.ArrayList;
import java.util.Arrays;
import java.util.List;
import java.util.TreeSet;
import java.util.regex.Matcher;
import java.util.regex.Pattern;

/** The document's face, and those rules of LANGUAGE.md that can be seen from the source or by reflection. */
public final class LanguageTest {
    private static final String SOURCE = "src/main/java/RotatingTokenGroup.java";
    private static final List<String> FACE = List.of(
            "public static final int NONE", "public static final int DOWN_NODE", "public static final int BAD",
            "public static final int FULL", "public RotatingTokenGroup()",
            "public int send(int,boolean)", "public int visit(int)", "public int tick(int)",
            "public boolean crash(int)", "public boolean restart(int)", "public boolean place(int,int)",
            "public boolean deafen(int,int)", "public boolean drop(int)", "public int ring(int)",
            "public int members(int)", "public int token(int)", "public int last(int)", "public int requests(int)",
            "public int reach(int)", "public int line(int)", "public int waiting(int)", "public int delivered(int)",
            "public int log(int,int)", "public int stamp(int)");
    private static final String FORBIDDEN_WORDS = "\\b(throws?|try|catch|finally|synchronized|assert|package|protected"
            + "|hashCode|getClass|Random|Thread|volatile|native)\\b|::|\\w+Exact\\b|\\bSystem\\.(?!arraycopy\\b)"
            + "|\\bimport (?!java\\.util\\.(ArrayList|List|Arrays|Iterator);)|\\bstatic \\{";

    private static int wrong = 0;

    public static void main(String[] args) throws IOException {
        face();
        constants();
        nestedClasses();
        source(Files.readString(Path.of(SOURCE)));
        System.out.println(wrong == 0 ? "the face and the language are as due" : wrong + " faults");
        if (wrong != 0) {
            System.exit(1);
        }
    }

    private static void fault(boolean isThere, String text) {
        if (isThere) {
            wrong++;
            System.out.println(text);
        }
    }

    private static void face() {
        Class<?> type = RotatingTokenGroup.class;
        fault(type.getModifiers() != (Modifier.PUBLIC | Modifier.FINAL), "the class is not just public and final");
        TreeSet<String> found = new TreeSet<>();
        for (Field field : type.getDeclaredFields()) {
            if (!Modifier.isPrivate(field.getModifiers())) {
                found.add(Modifier.toString(field.getModifiers()) + " " + field.getType() + " " + field.getName());
            }
        }
        for (Constructor<?> constructor : type.getDeclaredConstructors()) {
            found.add("public " + type.getName() + parameters(constructor));
            fault(!Modifier.isPublic(constructor.getModifiers()), "a constructor is not public");
        }
        for (Method method : type.getDeclaredMethods()) {
            if (!Modifier.isPrivate(method.getModifiers())) {
                found.add(Modifier.toString(method.getModifiers()) + " " + method.getReturnType() + " "
                        + method.getName() + parameters(method));
            }
        }
        fault(!found.equals(new TreeSet<>(FACE)), "the face is " + found);
        privateNames(type);
    }

    private static String parameters(Executable executable) {
        List<String> names = new ArrayList<>();
        for (Class<?> parameter : executable.getParameterTypes()) {
            names.add(parameter.getName());
        }
        return "(" + String.join(",", names) + ")";
    }

    private static void privateNames(Class<?> type) {
        TreeSet<String> open = new TreeSet<>();
        for (Method method : type.getDeclaredMethods()) {
            if (Modifier.isPublic(method.getModifiers())) {
                open.add(method.getName());
            }
        }
        List<Class<?>> all = new ArrayList<>(Arrays.asList(type.getDeclaredClasses()));
        all.add(type);
        for (Class<?> each : all) {
            for (Method method : each.getDeclaredMethods()) {
                fault(Modifier.isPrivate(method.getModifiers()) && open.contains(method.getName()),
                        method + " bears the name of a public method");
                fault(method.getParameterCount() > 7, method + " takes more than seven parameters");
                fault(method.getName().startsWith("lambda$"), method + " is a lambda");
            }
        }
    }

    private static void constants() {
        fault(RotatingTokenGroup.NONE != -1, "NONE");
        fault(RotatingTokenGroup.DOWN_NODE != -2, "DOWN_NODE");
        fault(RotatingTokenGroup.BAD != -3, "BAD");
        fault(RotatingTokenGroup.FULL != -4, "FULL");
    }

    private static void nestedClasses() {
        Class<?>[] nested = RotatingTokenGroup.class.getDeclaredClasses();
        fault(nested.length > 11, "more than twelve classes");
        for (Class<?> each : nested) {
            int modifiers = each.getModifiers();
            fault(!Modifier.isStatic(modifiers), each + " is not static");
            fault(Modifier.isPublic(modifiers) || Modifier.isProtected(modifiers), each + " is too visible");
            fields(each);
        }
        fields(RotatingTokenGroup.class);
    }

    private static void fields(Class<?> type) {
        int many = 0;
        for (Field field : type.getDeclaredFields()) {
            boolean isStatic = Modifier.isStatic(field.getModifiers());
            fault(isStatic && !Modifier.isFinal(field.getModifiers()), field + " is static, but not final");
            many += isStatic ? 0 : 1;
        }
        fault(many > 20, type + " has too many fields");
    }

    private static void source(String text) {
        String code = text.replaceAll("(?s)/\\*.*?\\*/", "").replaceAll("//[^\n]*", "");
        Matcher found = Pattern.compile(FORBIDDEN_WORDS).matcher(code);
        while (found.find()) {
            fault(true, "the source has: " + found.group());
        }
        methodLengths(code);
    }

    private static void methodLengths(String code) {
        Matcher method = Pattern.compile("(?m)^( +)[^\\n=;]*\\)\\s*\\{\\n(?s:.*?)\\n\\1\\}").matcher(code);
        while (method.find()) {
            fault(method.group().lines().count() > 60, "a long method: " + method.group().lines().findFirst().get());
        }
    }
}
