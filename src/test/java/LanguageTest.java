import java.io.IOException;
import java.lang.reflect.Constructor;
import java.lang.reflect.Field;
import java.lang.reflect.Method;
import java.lang.reflect.Modifier;
import java.nio.charset.StandardCharsets;
import java.nio.file.Files;
import java.nio.file.Path;
import java.util.ArrayList;
import java.util.HashSet;
import java.util.List;
import java.util.Set;
import java.util.regex.Matcher;
import java.util.regex.Pattern;

/** The document's face, and those rules of LANGUAGE.md that can be seen in the source or by reflection. */
public final class LanguageTest {
    private static final Path SOURCE = Path.of("src/main/java/SlipwayPlan.java");
    private static final Path DOCUMENT = Path.of("../shared/DOC.md");
    private static final int LONGEST_METHOD = 60;

    private LanguageTest() {
    }

    public static void main(String[] args) throws IOException {
        String source = Files.readString(SOURCE, StandardCharsets.UTF_8);
        Check.part("the face");
        face(Files.readString(DOCUMENT, StandardCharsets.UTF_8));
        Check.part("rule 1");
        noOtherMembers();
        Check.part("rules 3 to 6");
        words(withoutComments(source));
        library(withoutComments(source));
        throwsOnly(withoutComments(source));
        Check.part("rules 5 and 11");
        classes();
        methodsAreShort(source);
        Check.end();
    }

    // ---- the face

    private static void face(String document) {
        Set<String> due = new HashSet<>();
        Matcher block = Pattern.compile("```java\\n(.*?)```", Pattern.DOTALL).matcher(document);
        Check.holds("the document has a face", block.find());
        Matcher line = Pattern.compile("    public (\\w+) (\\w+)\\(([^)]*)\\)( throws ([^;]*))?;").matcher(block.group(1));
        while (line.find()) {
            due.add(line.group(1) + " " + line.group(2) + "(" + types(line.group(3)) + ")" + names(line.group(5)));
        }
        Check.same("methods in the document", due.size(), 46);
        Set<String> got = new HashSet<>();
        for (Method method : SlipwayPlan.class.getDeclaredMethods()) {
            if (Modifier.isPublic(method.getModifiers())) {
                got.add(told(method));
            }
        }
        Check.holds("the face is " + got + ", due is " + due, got.equals(due));
        Constructor<?>[] constructors = SlipwayPlan.class.getDeclaredConstructors();
        Check.same("constructors", constructors.length, 1);
        Check.same("is public", Modifier.isPublic(constructors[0].getModifiers()), true);
        Check.same("has no parameters", constructors[0].getParameterCount(), 0);
        int modifiers = SlipwayPlan.class.getModifiers();
        Check.same("public and final", Modifier.isPublic(modifiers) && Modifier.isFinal(modifiers), true);
    }

    private static String types(String parameters) {
        List<String> types = new ArrayList<>();
        for (String parameter : parameters.split(", ")) {
            types.add(parameter.split(" ")[0]);
        }
        return String.join(",", types);
    }

    private static String names(String thrown) {
        return thrown == null ? "" : " " + thrown.replace(" ", "");
    }

    private static String told(Method method) {
        List<String> types = new ArrayList<>();
        for (Class<?> type : method.getParameterTypes()) {
            types.add(type.getSimpleName());
        }
        List<String> thrown = new ArrayList<>();
        for (Class<?> type : method.getExceptionTypes()) {
            thrown.add(type.getSimpleName());
        }
        return method.getReturnType().getSimpleName() + " " + method.getName() + "(" + String.join(",", types) + ")"
                + (thrown.isEmpty() ? "" : " " + String.join(",", thrown));
    }

    private static void noOtherMembers() {
        Set<String> faceNames = new HashSet<>();
        for (Method method : SlipwayPlan.class.getDeclaredMethods()) {
            if (Modifier.isPublic(method.getModifiers())) {
                faceNames.add(method.getName());
            }
        }
        for (Method method : SlipwayPlan.class.getDeclaredMethods()) {
            if (!Modifier.isPublic(method.getModifiers())) {
                Check.holds(method + " is private", Modifier.isPrivate(method.getModifiers()));
                Check.holds(method + " has a name of its own", !faceNames.contains(method.getName()));
            }
        }
        for (Field field : SlipwayPlan.class.getDeclaredFields()) {
            Check.holds(field + " is private", Modifier.isPrivate(field.getModifiers()));
        }
        for (Class<?> inside : SlipwayPlan.class.getDeclaredClasses()) {
            Check.holds(inside + " is static", Modifier.isStatic(inside.getModifiers()));
            Check.holds(inside + " is not public", !Modifier.isPublic(inside.getModifiers()));
            for (Method method : inside.getDeclaredMethods()) {
                Check.holds(method + " has a name of its own", !faceNames.contains(method.getName()));
            }
        }
    }

    // ---- the source

    private static String withoutComments(String source) {
        return source.replaceAll("(?s)/\\*.*?\\*/", "").replaceAll("//[^\\n]*", "");
    }

    private static void words(String code) {
        String[] words = {"package", "synchronized", "assert", "finally", "try", "catch", "Object", "equals", "hashCode",
            "toString", "float", "NaN", "Iterator", "Thread", "System\\.out", "System\\.exit", "nanoTime",
            "currentTimeMillis", "Random", "getClass", "volatile", "transient", "native", "\\w*Exact", "var", "yield",
            "protected", "MAX_VALUE", "MIN_VALUE"};
        for (String word : words) {
            Check.holds(word + " stands in the source", !Pattern.compile("\\b" + word + "\\b").matcher(code).find());
        }
        Check.holds("a lambda stands in the source", !code.contains("->"));
        Check.holds("a method reference stands in the source", !code.contains("::"));
        Check.holds("a joined text stands in the source", !Pattern.compile("\"\\s*\\+|\\+\\s*\"").matcher(code).find());
        Check.holds("another sign stands in the source", code.chars().allMatch(c -> c == '\n' || c >= 32 && c < 127));
    }

    private static void library(String code) {
        Matcher imports = Pattern.compile("import ([^;]*);").matcher(code);
        while (imports.find()) {
            Check.holds("import of " + imports.group(1), imports.group(1).equals("java.util.Arrays"));
        }
        Set<String> allowed = Set.of("Math.max", "Math.min", "Arrays.fill", "System.arraycopy");
        Matcher calls = Pattern.compile("\\b(Math|Arrays|System|Integer|Long|String|List)\\.(\\w+)").matcher(code);
        while (calls.find()) {
            Check.holds(calls.group() + " is allowed", allowed.contains(calls.group()));
        }
    }

    private static void throwsOnly(String code) {
        Pattern form = Pattern.compile("throw new (IndexOutOfBounds|IllegalArgument|IllegalState)Exception\\(\"[^\"]*\"\\);");
        Matcher thrown = Pattern.compile("throw [^;]*;").matcher(code);
        int count = 0;
        while (thrown.find()) {
            count++;
            Check.holds(thrown.group(), form.matcher(thrown.group()).matches());
        }
        Check.same("throw statements", count, 3);
    }

    private static void classes() {
        Class<?>[] inside = SlipwayPlan.class.getDeclaredClasses();
        Check.holds(inside.length + " classes inside", inside.length < 12);
        fields(SlipwayPlan.class);
        for (Class<?> one : inside) {
            fields(one);
        }
    }

    private static void fields(Class<?> one) {
        int count = 0;
        for (Field field : one.getDeclaredFields()) {
            if (Modifier.isStatic(field.getModifiers())) {
                Check.holds(field + " is a constant",
                        Modifier.isFinal(field.getModifiers()) && field.getType() == int.class);
            } else {
                count++;
            }
        }
        Check.holds(one + " has " + count + " fields", count <= 20);
        for (Method method : one.getDeclaredMethods()) {
            Check.holds(method + " takes too much", method.getParameterCount() <= 7);
        }
    }

    private static void methodsAreShort(String source) {
        String[] lines = source.split("\n");
        for (int at = 0; at < lines.length; at++) {
            if (!lines[at].matches(" {4}( {4})?[^ /*].*\\(.*") || lines[at].trim().startsWith("//")
                    || lines[at].contains(";")) {
                continue;
            }
            int indent = lines[at].indexOf(lines[at].trim());
            int stop = at;
            while (stop < lines.length && !lines[stop].equals(" ".repeat(indent) + "}")) {
                stop++;
            }
            Check.holds(lines[at].trim() + " has " + (stop - at) + " lines", stop - at <= LONGEST_METHOD);
        }
    }
}
