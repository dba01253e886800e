import java.io.IOException;
import java.lang.reflect.Constructor;
import java.lang.reflect.Executable;
import java.lang.reflect.Field;
import java.lang.reflect.Method;
import java.lang.reflect.Modifier;
import java.nio.file.Files;
import java.nio.file.Path;
import java.util.ArrayList;
import java.util.List;
import java.util.Set;
import java.util.regex.Matcher;
import java.util.regex.Pattern;
import java.util.stream.Stream;

/** The rules of LANGUAGE.md that can be seen in the program's text and in its compiled classes. */
public final class LanguageTest {
    private static final Path DIRECTORY = Path.of("src/main/java");
    private static final int MOST_PARAMETERS = 7;
    private static final int MOST_LINES = 60;
    private static final int MOST_CLASSES = 12;
    private static final int MOST_FIELDS = 20;

    private static final Set<Class<?>> STATIC_TYPES = Set.of(int.class, long.class, boolean.class, char.class,
        String.class, int[].class, long[].class, char[].class, byte[].class);

    /** What rules 2, 5, 6, 9 and 13 rule out, and what the library of rule 4 does not have. */
    private static final String[] RULED_OUT = {
        "\\bpackage\\b", "->", "::", "\\bstatic\\s*\\{", "\\bnew\\s+\\w+\\s*\\([^;]*\\)\\s*\\{",
        "\\bthrows?\\b", "\\btry\\b", "\\bcatch\\b", "\\bfinally\\b", "\\bsynchronized\\b", "\\bassert\\b",
        "\\bvolatile\\b", "\\bnative\\b", "\\bhashCode\\b", "\\bObject\\b", "\\bThread\\b", "\\bRandom\\b",
        "Exact\\b", "\\brandom\\b", "\\bjava\\.(?!util\\.)", "\\bjavax\\b", "\\bfor\\s*\\(\\s*;\\s*;",
        "\\bwhile\\s*\\(\\s*true\\s*\\)", "\\[\\s*\\]\\s*\\[\\s*\\]\\s*\\["
    };

    private static final Set<String> IMPORTS = Set.of("java.util.ArrayList", "java.util.Arrays", "java.util.Iterator",
        "java.util.List");

    private final Checks checks = new Checks("LanguageTest");
    private final String code;

    private LanguageTest(String code) {
        this.code = code;
    }

    public static void main(String[] args) throws IOException {
        LanguageTest test = new LanguageTest(withoutComments(Files.readString(DIRECTORY.resolve("LevelledRing.java"))));
        test.oneFile();
        test.nothingRuledOut();
        test.library();
        test.shortMethods();
        test.classes();
        test.checks.finish();
    }

    /** Lines stay as they are, so that they can be counted. */
    private static String withoutComments(String text) {
        String withoutBlocks = Pattern.compile("/\\*.*?\\*/", Pattern.DOTALL).matcher(text)
            .replaceAll(comment -> "\n".repeat((int) comment.group().chars().filter(c -> c == '\n').count()));
        return withoutBlocks.replaceAll("//[^\n]*", "");
    }

    private void oneFile() throws IOException {
        try (Stream<Path> files = Files.walk(DIRECTORY)) {
            List<Path> all = files.filter(Files::isRegularFile).toList();
            checks.yes("the program is one file: " + all, all.equals(List.of(DIRECTORY.resolve("LevelledRing.java"))));
        }
    }

    private void nothingRuledOut() {
        for (String pattern : RULED_OUT) {
            Matcher found = Pattern.compile(pattern).matcher(code);
            checks.no("the program's text has what " + pattern + " finds", found.find());
        }
    }

    private void library() {
        Matcher imports = Pattern.compile("\\bimport\\s+([^;]+);").matcher(code);
        while (imports.find()) {
            checks.yes("import of " + imports.group(1), IMPORTS.contains(imports.group(1)));
        }
        Matcher calls = Pattern.compile("\\b([A-Z]\\w*)\\.(\\w+)\\(").matcher(code);
        while (calls.find()) {
            checks.yes("call of " + calls.group(1) + "." + calls.group(2), isInLibrary(calls.group(1), calls.group(2)));
        }
    }

    private boolean isInLibrary(String type, String method) {
        switch (type) {
            case "System": return method.equals("arraycopy");
            case "Arrays": return Set.of("copyOf", "copyOfRange", "fill").contains(method);
            case "Math": case "Integer": case "Long": case "List": return true;
            default: return code.contains("class " + type + " ") || code.contains("enum " + type + " ");
        }
    }

    /** A method begins where a line, not that of a loop or condition, ends in "{", and ends at the same indentation. */
    private void shortMethods() {
        String[] lines = code.split("\n", -1);
        Pattern start = Pattern.compile("( {4}(?: {4})?)(?! )[\\w\\[\\]<> ]*\\b\\w+\\([^;]*\\) \\{");
        int methods = 0;
        for (int at = 0; at < lines.length; at++) {
            Matcher method = start.matcher(lines[at]);
            if (!method.matches() || lines[at].matches(" *(if|for|while|switch) .*")) {
                continue;
            }
            int end = at;
            while (end < lines.length && !lines[end].equals(method.group(1) + "}")) {
                end++;
            }
            methods++;
            checks.yes("at most 60 lines from " + lines[at].trim(), end - at + 1 <= MOST_LINES);
        }
        checks.yes("the methods were found: " + methods, methods >= 18);
    }

    private void classes() {
        List<Class<?>> all = new ArrayList<>();
        addWithInside(all, LevelledRing.class);
        checks.yes("at most 12 classes", all.size() <= MOST_CLASSES);
        for (Class<?> type : all) {
            fields(type);
            parameters(type);
            if (type != LevelledRing.class) {
                checks.yes(type + " is static", Modifier.isStatic(type.getModifiers()));
                checks.no(type + " can be seen outside",
                    Modifier.isPublic(type.getModifiers()) || Modifier.isProtected(type.getModifiers()));
            }
        }
    }

    private static void addWithInside(List<Class<?>> all, Class<?> type) {
        all.add(type);
        for (Class<?> inside : type.getDeclaredClasses()) {
            addWithInside(all, inside);
        }
    }

    private void fields(Class<?> type) {
        int own = 0;
        for (Field field : type.getDeclaredFields()) {
            if (field.isSynthetic()) {
                continue;
            }
            if (!Modifier.isStatic(field.getModifiers())) {
                own++;
                continue;
            }
            checks.yes(field + " is final", Modifier.isFinal(field.getModifiers()));
            checks.yes(field + " is a constant", field.isEnumConstant() || STATIC_TYPES.contains(field.getType()));
        }
        checks.yes(type + " has at most 20 fields", own <= MOST_FIELDS);
    }

    private void parameters(Class<?> type) {
        List<Executable> all = new ArrayList<>();
        for (Method method : type.getDeclaredMethods()) {
            all.add(method);
        }
        for (Constructor<?> constructor : type.getDeclaredConstructors()) {
            all.add(constructor);
        }
        for (Executable method : all) {
            checks.yes(method + " takes at most 7 parameters", method.getParameterCount() <= MOST_PARAMETERS);
            checks.same(method + " throws nothing", method.getExceptionTypes().length, 0);
        }
    }
}
