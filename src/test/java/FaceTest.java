import java.io.IOException;
import java.lang.reflect.Constructor;
import java.lang.reflect.Field;
import java.lang.reflect.Method;
import java.lang.reflect.Modifier;
import java.nio.file.Files;
import java.nio.file.Path;
import java.util.Arrays;
import java.util.Set;
import java.util.TreeSet;
import java.util.regex.Matcher;
import java.util.regex.Pattern;

/** The public face is the document's and no more, and the source keeps to what can be seen of LANGUAGE.md. */
public final class FaceTest {
    private static final Path SOURCE = Path.of("src/main/java/JoinedLists.java");

    private static final String[] FACE = {
        "int weight(int, int, int)", "int draw(int, int)", "int set(int, int, int, int)", "int observe(int, int, int)",
        "int weigh(int)", "int skip(int, int)", "int drop()", "int ask(int, boolean)", "int live(int)", "int begin()",
        "int list(int)", "int done()", "int states(int, int)", "int code(int, int)", "long mass(int, int)",
        "long sum(int, int, int)", "long odds(int, int, int) throws ArithmeticException", "int runs()",
        "long plain(int, int)", "int count(int)", "int clear()"};

    private static final String[] CONSTANTS = {"BAD", "FULL", "STATE", "UNEVEN", "NONE"};

    /** What LANGUAGE.md rules out and what can be seen by its words alone. */
    private static final String[] RULED_OUT = {"\\bpackage\\b", "\\bfinally\\b", "::", "\\bsynchronized\\b", "\\bassert\\b", "Exact\\(",
        "\\bThread\\b", "System\\.(?!arraycopy)", "\\bstatic \\{", "\\bprotected\\b", "\\bnative\\b", "\\bvolatile\\b",
        "\\bimport (?!java\\.util\\.(ArrayList|List|Arrays|Iterator|NoSuchElementException);)",
        "\\bcatch \\((Throwable|Exception|NullPointerException|ArrayIndexOutOfBoundsException|ClassCastException)\\b"};

    private static final int MOST_PARAMETERS = 7, MOST_CLASSES = 12, MOST_FIELDS = 20;

    private static int wrong = 0;

    private static void fault(String what) {
        wrong++;
        System.out.println(what);
    }

    private static String names(Class<?>[] types) {
        StringBuilder names = new StringBuilder();
        for (Class<?> type : types) {
            names.append(names.length() == 0 ? "" : ", ").append(type.getSimpleName());
        }
        return names.toString();
    }

    private static String signature(Method method) {
        String thrown = names(method.getExceptionTypes());
        return method.getReturnType().getSimpleName() + " " + method.getName() + "(" + names(method.getParameterTypes()) + ")"
                + (thrown.isEmpty() ? "" : " throws " + thrown);
    }

    private static void lookAtMethods(Class<?> type) {
        Set<String> found = new TreeSet<>();
        Set<String> publicNames = new TreeSet<>();
        for (Method method : type.getDeclaredMethods()) {
            if (Modifier.isPublic(method.getModifiers())) {
                found.add(signature(method));
                publicNames.add(method.getName());
                if (Modifier.isStatic(method.getModifiers())) {
                    fault("static, but in the face: " + signature(method));
                }
            } else if (!Modifier.isPrivate(method.getModifiers())) {
                fault("neither public nor private: " + signature(method));
            }
        }
        Set<String> due = new TreeSet<>(Arrays.asList(FACE));
        if (!found.equals(due)) {
            fault("the face is " + found + ", due is " + due);
        }
        if (type.getDeclaredClasses().length + 1 > MOST_CLASSES) {
            fault("more than twelve classes");
        }
        for (Class<?> inside : type.getDeclaredClasses()) {
            if (!Modifier.isStatic(inside.getModifiers()) || Modifier.isPublic(inside.getModifiers())) {
                fault("a class inside is public or not static: " + inside);
            }
            lookForNames(inside, publicNames);
        }
        for (Method method : type.getDeclaredMethods()) {
            if (Modifier.isPrivate(method.getModifiers()) && publicNames.contains(method.getName())) {
                fault("private with a public name: " + method);
            }
        }
    }

    private static void lookForNames(Class<?> inside, Set<String> publicNames) {
        for (Method method : inside.getDeclaredMethods()) {
            if (Modifier.isPrivate(method.getModifiers()) && publicNames.contains(method.getName())) {
                fault("private with a public name: " + method);
            }
            if (method.getParameterCount() > MOST_PARAMETERS) {
                fault("more than seven parameters: " + method);
            }
        }
        int fields = 0;
        for (Field field : inside.getDeclaredFields()) {
            fields += Modifier.isStatic(field.getModifiers()) ? 0 : 1;
        }
        if (fields > MOST_FIELDS) {
            fault("more than twenty fields: " + inside);
        }
    }

    private static void lookAtFields(Class<?> type) {
        Set<String> found = new TreeSet<>();
        for (Field field : type.getDeclaredFields()) {
            int modifiers = field.getModifiers();
            if (Modifier.isPublic(modifiers)) {
                found.add(field.getName());
                if (!Modifier.isStatic(modifiers) || !Modifier.isFinal(modifiers) || field.getType() != int.class) {
                    fault("no constant of int: " + field);
                }
            } else if (!Modifier.isPrivate(modifiers)) {
                fault("neither public nor private: " + field);
            }
            if (Modifier.isStatic(modifiers) && !Modifier.isFinal(modifiers)) {
                fault("static state: " + field);
            }
        }
        if (!found.equals(new TreeSet<>(Arrays.asList(CONSTANTS)))) {
            fault("the constants are " + found);
        }
    }

    private static void lookAtConstructors(Class<?> type) {
        Constructor<?>[] all = type.getDeclaredConstructors();
        if (all.length != 1 || !Modifier.isPublic(all[0].getModifiers()) || all[0].getParameterCount() != 0) {
            fault("the constructors are " + Arrays.toString(all));
        }
        if (!Modifier.isFinal(type.getModifiers()) || !Modifier.isPublic(type.getModifiers())) {
            fault("the class is not public and final");
        }
    }

    private static void lookAtSource() throws IOException {
        String source = Files.readString(SOURCE);
        String code = source.replaceAll("(?s)/\\*.*?\\*/", "").replaceAll("//[^\n]*", "");
        for (String out : RULED_OUT) {
            Matcher matcher = Pattern.compile(out).matcher(code);
            if (matcher.find()) {
                fault("the source has " + matcher.group());
            }
        }
        if (!source.chars().allMatch(c -> c < 128)) {
            fault("the source has characters beyond ASCII");
        }
    }

    public static void main(String[] args) throws IOException {
        lookAtMethods(JoinedLists.class);
        lookAtFields(JoinedLists.class);
        lookAtConstructors(JoinedLists.class);
        lookAtSource();
        System.out.println(wrong == 0 ? "the face is as due" : wrong + " faults");
        if (wrong != 0) {
            System.exit(1);
        }
    }
}
