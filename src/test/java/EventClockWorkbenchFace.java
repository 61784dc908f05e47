import java.io.IOException;
import java.lang.reflect.Constructor;
import java.lang.reflect.Field;
import java.lang.reflect.Method;
import java.lang.reflect.Modifier;
import java.nio.file.Files;
import java.nio.file.Path;
import java.util.ArrayList;
import java.util.List;
import java.util.regex.Matcher;
import java.util.regex.Pattern;

/** The public face as the document prints it, and the rules of LANGUAGE.md that a text search can see. */
public final class EventClockWorkbenchFace {
    /** Words that the rules leave no use for. */
    private static final String[] RULED_OUT = {"->", "::", "synchronized", "assert ", "finally", "native", "volatile",
        "System.out", "System.exit", "nanoTime", "currentTimeMillis", "Random", "Thread", "equals(", "hashCode",
        "toString", "Exact(", "Double", "Float.", "catch", "static {", "null", "instanceof", "[][]", "protected"};

    private static int wrong = 0;

    public static void main(String[] args) throws IOException {
        Class<?> type = EventClockWorkbench.class;
        due("the class is public and final", Modifier.isPublic(type.getModifiers())
                && Modifier.isFinal(type.getModifiers()));
        methods(type);
        members(type);
        source(Files.readString(Path.of("src/main/java/EventClockWorkbench.java")));
        System.out.println(wrong == 0 ? "the face is as printed" : wrong + " faults of the face");
        if (wrong != 0) {
            System.exit(1);
        }
    }

    private static void due(String what, boolean holds) {
        if (!holds) {
            wrong++;
            System.out.println("does not hold: " + what);
        }
    }

    /** The method as the document prints it, without the names of its parameters. */
    private static String shown(Method method) {
        String shown = method.getReturnType().getName() + " " + method.getName() + "("
                + names(method.getParameterTypes()) + ")";
        Class<?>[] thrown = method.getExceptionTypes();
        return thrown.length == 0 ? shown : shown + " throws " + names(thrown);
    }

    private static String names(Class<?>[] types) {
        List<String> names = new ArrayList<>();
        for (Class<?> type : types) {
            names.add(type.getSimpleName());
        }
        return String.join(", ", names);
    }

    /** Each promise begins with its member of the face, in the same order. */
    private static List<String> printedMethods() {
        List<String> printed = Document.face();
        due("a member for each promise", printed.size() == Document.PROMISES);
        for (int i = 0; i < printed.size(); i++) {
            due("promise of " + printed.get(i), Document.sentences(i + 1).get(0).equals("`" + printed.get(i) + "`"));
        }
        due("the constructor", printed.remove("EventClockWorkbench()"));
        printed.replaceAll(method -> method.replaceAll("(int|boolean) \\w+([,)])", "$1$2"));
        return printed;
    }

    private static void methods(Class<?> type) {
        List<String> want = printedMethods();
        List<String> publicNames = new ArrayList<>();
        for (Method method : type.getDeclaredMethods()) {
            if (Modifier.isPublic(method.getModifiers())) {
                due("printed: " + shown(method), want.remove(shown(method)));
                publicNames.add(method.getName());
            }
        }
        due("present: " + want, want.isEmpty());
        for (Method method : type.getDeclaredMethods()) {
            if (!Modifier.isPublic(method.getModifiers())) {
                due("private: " + method, Modifier.isPrivate(method.getModifiers()));
                due("another name: " + method, !publicNames.contains(method.getName()));
            }
            due("at most seven parameters: " + method, method.getParameterCount() <= 7);
        }
    }

    private static void members(Class<?> type) {
        for (Field field : type.getDeclaredFields()) {
            due("private: " + field, Modifier.isPrivate(field.getModifiers()));
        }
        Constructor<?>[] constructors = type.getDeclaredConstructors();
        due("one public constructor", constructors.length == 1 && Modifier.isPublic(constructors[0].getModifiers())
                && constructors[0].getParameterCount() == 0);
        due("at most some twelve classes", type.getDeclaredClasses().length < 12);
        for (Class<?> inside : type.getDeclaredClasses()) {
            due("static: " + inside, Modifier.isStatic(inside.getModifiers()));
            due("private: " + inside, Modifier.isPrivate(inside.getModifiers()));
            for (Field field : inside.getDeclaredFields()) {
                due("final: " + field, !Modifier.isStatic(field.getModifiers())
                        || Modifier.isFinal(field.getModifiers()));
            }
        }
    }

    private static void source(String source) {
        String code = source.replaceAll("(?s)/\\*.*?\\*/", "").replaceAll("//[^\n]*", "");
        for (String word : RULED_OUT) {
            due("no use of " + word, !code.contains(word));
        }
        due("no package", !code.contains("package "));
        Matcher imports = Pattern.compile("import ([^;]+);").matcher(code);
        while (imports.find()) {
            due("imports nothing but NoSuchElementException", imports.group(1).equals("java.util.NoSuchElementException"));
        }
        Matcher calls = Pattern.compile("\\b(Math|Integer|Long|System|Arrays)\\.(\\w+)").matcher(code);
        List<String> library = List.of("Math.max", "Math.min", "Integer.bitCount", "System.arraycopy");
        while (calls.find()) {
            due("in the library: " + calls.group(), library.contains(calls.group()));
        }
        Matcher made = Pattern.compile("new (\\w+)").matcher(code);
        while (made.find()) {
            int before = code.lastIndexOf('\n', made.start());
            String line = code.substring(before + 1, made.start());
            due("made once, in a field, or thrown: " + line, line.contains("private final") || line.contains("throw"));
        }
    }
}
