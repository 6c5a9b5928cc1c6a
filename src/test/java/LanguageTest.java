import java.io.IOException;
import java.lang.reflect.Constructor;
import java.lang.reflect.Executable;
import java.lang.reflect.Field;
import java.lang.reflect.Method;
import java.lang.reflect.Modifier;
import java.nio.file.Files;
import java.nio.file.Path;
import java.util.ArrayList;
import java.util.Arrays;
import java.util.List;
import java.util.Set;
import java.util.TreeSet;
import java.util.regex.Matcher;
import java.util.regex.Pattern;

/** The face of the class, and what of LANGUAGE.md can be told from the source and the compiled class. */
public final class LanguageTest {
    private static final Path SOURCE = Path.of("src/main/java/WhoSitsBy.java");
    private static final String[] FACE = {"int pupil(int,int,int,int,int)", "int of(int,int)",
        "int front(int,boolean)", "int name(int,int)", "int sit(int,int)", "int feed(int)", "int room()",
        "int pair(int,int,int,int)", "int sitting(int)", "int swap()", "int best(int)", "int cost(int)",
        "int talk(int,int)", "int noise(int,int,int)", "int carries(int,int)", "int named(int)", "int slips(int)",
        "int month()", "int lacks(int)", "int next(int)", "long mean(int)", "long both(int,int,int)",
        "int judge(int,int)", "int image()", "int undo()", "int act(int,int,int)", "int trace(int)",
        "int taken(int,int)", "int count(int)", "int tape(int,int,int)", "int item(int,int,long)",
        "long read(int,int)", "int shift(int,int,int,int,int)"};
    private static final String[] NO_EXCEPTIONS = {"throw", "throws", "try", "catch", "finally", "synchronized",
        "assert", "\\w*Exception", "\\w*Error", "Throwable", "equals", "hashCode", "toString"};
    private static final String[] NO_LIBRARY = {"import", "package", "native", "volatile", "transient", "Object",
        "\\w+Exact"};
    private static final Set<String> LIBRARY = Set.of("String", "Math.max", "Math.min", "Integer.bitCount",
        "Long.bitCount", "Long.MIN_VALUE", "System.arraycopy");

    public static void main(String[] args) throws IOException {
        String text = Files.readString(SOURCE);
        signs(text);
        String bare = text.replaceAll("(?s)/\\*.*?\\*/", " ").replaceAll("//[^\n]*", " ")
            .replaceAll("'(\\\\.|[^'])'", "' '").replaceAll("\"(\\\\.|[^\"])*\"", "\"\"");
        words(bare);
        library(bare);
        lengths(bare);
        face();
        List<Class<?>> all = new ArrayList<>(Arrays.asList(WhoSitsBy.class.getDeclaredClasses()));
        all.add(WhoSitsBy.class);
        Due.rule(11);
        Due.due("classes beyond twelve", Math.max(0, all.size() - 12), 0);
        for (Class<?> one : all) {
            insides(one);
        }
        Due.end("LanguageTest");
    }

    private static void signs(String text) {
        Due.rule(4);
        for (int i = 0; i < text.length(); i++) {
            if (text.charAt(i) > 126 || text.charAt(i) == '\t') {
                Due.due("a sign that is none, at " + i, text.charAt(i), ' ');
            }
        }
    }

    private static void words(String bare) {
        Due.rule(6);
        none(bare, "\\b", NO_EXCEPTIONS);
        Due.rule(4);
        none(bare, "\\b", NO_LIBRARY);
        Due.rule(2);
        none(bare, "", "->", "::", "@");
        Due.rule(10);
        none(bare, "", "\"\" \\+", "\\+ \"\"");
    }

    private static void none(String bare, String edge, String... words) {
        for (String word : words) {
            Due.due(word, Pattern.compile(edge + word + edge).matcher(bare).find() ? 1 : 0, 0);
        }
    }

    // what has a name of a class is one of ours, or stands in the list
    private static void library(String bare) {
        Due.rule(4);
        Set<String> own = new TreeSet<>();
        own.add("WhoSitsBy");
        for (Class<?> one : WhoSitsBy.class.getDeclaredClasses()) {
            own.add(one.getSimpleName());
        }
        Matcher used = Pattern.compile("\\b([A-Z]\\w*[a-z]\\w*)(\\.\\w+)?").matcher(bare);
        while (used.find()) {
            boolean known = own.contains(used.group(1)) || LIBRARY.contains(used.group(1))
                || LIBRARY.contains(used.group());
            Due.due("use of " + used.group(), known ? 1 : 0, 1);
        }
    }

    // a method begins on a line indented by 4 or 8 that ends with ") {", and ends where a line is its bracket
    private static void lengths(String bare) {
        Due.rule(11);
        String[] lines = bare.split("\n", -1);
        for (int i = 0; i < lines.length; i++) {
            Matcher head = Pattern.compile("^( {4}| {8})(?! )(?!if|for|while|switch|return|static \\{).*\\) \\{\\s*$")
                .matcher(lines[i]);
            if (!head.find()) {
                continue;
            }
            int end = i;
            while (end < lines.length && !lines[end].startsWith(head.group(1) + "}")) {
                end++;
            }
            Due.due("too long: " + lines[i], Math.max(0, end - i + 1 - 60), 0);
        }
    }

    private static String told(Method method) {
        StringBuilder s = new StringBuilder(method.getReturnType() + " " + method.getName() + "(");
        for (int i = 0; i < method.getParameterCount(); i++) {
            s.append(i == 0 ? "" : ",").append(method.getParameterTypes()[i]);
        }
        return s.append(")").toString();
    }

    private static void face() {
        Due.rule(1);
        Set<String> due = new TreeSet<>(Arrays.asList(FACE));
        Set<String> there = new TreeSet<>();
        Set<String> names = new TreeSet<>();
        for (Method method : WhoSitsBy.class.getDeclaredMethods()) {
            if (Modifier.isPublic(method.getModifiers())) {
                there.add(told(method));
                names.add(method.getName());
                Due.due(method + " is static", Modifier.isStatic(method.getModifiers()) ? 1 : 0, 0);
            }
        }
        Due.due("the face is " + there, there.equals(due) ? 1 : 0, 1);
        for (Class<?> one : WhoSitsBy.class.getDeclaredClasses()) {
            for (Method method : one.getDeclaredMethods()) {
                Due.due("name of a public method: " + method, names.contains(method.getName()) ? 1 : 0, 0);
            }
        }
        for (Method method : WhoSitsBy.class.getDeclaredMethods()) {
            boolean open = Modifier.isPublic(method.getModifiers());
            Due.due("neither public nor private: " + method,
                open || Modifier.isPrivate(method.getModifiers()) || method.isSynthetic() ? 0 : 1, 0);
            Due.due("a private one's name: " + method, !open && names.contains(method.getName()) ? 1 : 0, 0);
        }
        Set<String> constants = new TreeSet<>();
        for (Field field : WhoSitsBy.class.getDeclaredFields()) {
            if (!Modifier.isPrivate(field.getModifiers())) {
                constants.add(field.getName());
            }
        }
        Due.due("the constants are " + constants,
            constants.equals(Set.of("NONE", "BAD", "STATE", "FULL", "NO")) ? 1 : 0, 1);
        Constructor<?>[] makers = WhoSitsBy.class.getDeclaredConstructors();
        Due.due("constructors", makers.length, 1);
        Due.due("the constructor is public", Modifier.isPublic(makers[0].getModifiers()) ? 1 : 0, 1);
        Due.due("the class is public and final",
            WhoSitsBy.class.getModifiers() & (Modifier.PUBLIC | Modifier.FINAL), Modifier.PUBLIC | Modifier.FINAL);
    }

    private static void insides(Class<?> one) {
        Due.rule(2);
        int inside = one.getModifiers();
        if (one != WhoSitsBy.class) {
            Due.due(one + " is static", Modifier.isStatic(inside) ? 1 : 0, 1);
            Due.due(one + " is open", Modifier.isPublic(inside) || Modifier.isProtected(inside) ? 1 : 0, 0);
            Due.due(one + " has classes", one.getDeclaredClasses().length, 0);
        }
        Due.rule(5);
        int fields = 0;
        for (Field field : one.getDeclaredFields()) {
            boolean of = Modifier.isStatic(field.getModifiers());
            fields += of ? 0 : 1;
            Class<?> type = field.getType();
            Due.due("static and not final, or no constant: " + field, !of || Modifier.isFinal(field.getModifiers())
                && (type.isPrimitive() || type == String.class) ? 0 : 1, 0);
        }
        Due.rule(11);
        Due.due("fields beyond twenty of " + one, Math.max(0, fields - 20), 0);
        List<Executable> all = new ArrayList<>(Arrays.asList(one.getDeclaredMethods()));
        all.addAll(Arrays.asList(one.getDeclaredConstructors()));
        for (Executable each : all) {
            Due.due("parameters beyond seven of " + each, Math.max(0, each.getParameterCount() - 7), 0);
        }
    }
}
