import java.io.IOException;
import java.lang.reflect.Constructor;
import java.lang.reflect.Executable;
import java.lang.reflect.Field;
import java.lang.reflect.Method;
import java.lang.reflect.Modifier;
import java.nio.file.Files;
import java.nio.file.Path;
import java.util.ArrayList;
import java.util.Arrays;
import java.util.List;
import java.util.Set;
import java.util.regex.Matcher;
import java.util.regex.Pattern;
import java.util.stream.Collectors;

/** The rules of LANGUAGE.md, as far as they can be seen in the classes and in the text of the program. */
public final class LanguageTest {
    private static final Path PROGRAM = Path.of("src/main/java/FoldedStrand.java");
    private static final Set<Class<?>> NUMBERS = Set.of(
        int.class, long.class, short.class, byte.class, char.class, boolean.class);
    private static final Set<Class<?>> STATIC_ARRAYS = Set.of(int[].class, long[].class, char[].class, byte[].class);
    private static final Set<String> LIBRARY = Set.of(
        "Math.min", "Math.max", "Math.abs", "Arrays.fill", "Arrays.copyOf", "Arrays.copyOfRange", "System.arraycopy");

    private final Check check = new Check();
    private final List<Class<?>> classes = new ArrayList<>();
    private final String program;

    private LanguageTest() throws IOException {
        classes.add(FoldedStrand.class);
        classes.addAll(Arrays.asList(FoldedStrand.class.getDeclaredClasses()));
        program = withoutComments(Files.readString(PROGRAM));
    }

    public static void main(String[] args) throws IOException {
        LanguageTest test = new LanguageTest();
        test.classesInside();
        test.types();
        test.library();
        test.staticFields();
        test.exceptionsAndWords();
        test.sizes();
        test.objectsAreMadeFirst();
        test.check.finish();
    }

    private void classesInside() {
        check.sentence("1 and 2: the classes inside are static, and private or package-visible");
        check.due("classes inside", classes.size() > 1, true);
        for (Class<?> inside : classes.subList(1, classes.size())) {
            int modifiers = inside.getModifiers();
            check.due(inside + " is static", Modifier.isStatic(modifiers), true);
            check.due(inside + " is shown", Modifier.isPublic(modifiers) || Modifier.isProtected(modifiers), false);
            check.due("classes in " + inside, inside.getDeclaredClasses().length, 0);
        }
    }

    private void types() {
        check.sentence("3: numbers, own classes, arrays of one dimension of these, of two dimensions of numbers");
        for (Class<?> owner : classes) {
            for (Field field : owner.getDeclaredFields()) {
                check.due(field.toString(), isAllowed(field.getType()), true);
            }
            for (Executable method : methods(owner)) {
                for (Class<?> type : method.getParameterTypes()) {
                    check.due(method.toString(), isAllowed(type), true);
                }
            }
        }
    }

    private void library() {
        check.sentence("4: the library, only what stands there");
        check.due("imports", found("(?m)^import .*$"), "import java.util.Arrays;");
        for (String name : found("\\b(?:Math|Arrays|System|Integer|Long)\\.\\w+").split(", ")) {
            check.due(name, LIBRARY.contains(name), true);
        }
    }

    private void staticFields() {
        check.sentence("5: static fields are final, and constants or arrays written out");
        for (Class<?> owner : classes) {
            for (Field field : owner.getDeclaredFields()) {
                if (Modifier.isStatic(field.getModifiers())) {
                    Class<?> type = field.getType();
                    check.due(field + " is final", Modifier.isFinal(field.getModifiers()), true);
                    check.due(field + " is of a type for it",
                        NUMBERS.contains(type) || STATIC_ARRAYS.contains(type) || type == String.class, true);
                }
            }
        }
        check.due("static blocks", found("\\bstatic \\{"), "");
    }

    private void exceptionsAndWords() {
        check.sentence("2, 6, 10 and 13: what the program does without");
        check.due("words", found("\\b(?:throws?|try|catch|finally|synchronized|assert|double|float|String|StringBuilder"
            + "|Thread|Random|Object|instanceof|package|native|volatile|hashCode|equals|toString)\\b"), "");
        check.due("lambdas and method references", found("->|::"), "");
        check.due("loops without an end of their own", found("while \\(true\\)|for \\(;;\\)|for \\([^;]*; ;"), "");
    }

    private void sizes() {
        check.sentence("11: at most seven parameters, some sixty lines, twenty fields, twelve classes");
        check.due("at most 12 classes", classes.size() <= 12, true);
        for (Class<?> owner : classes) {
            long fields = Arrays.stream(owner.getDeclaredFields())
                .filter(field -> !Modifier.isStatic(field.getModifiers())).count();
            check.due(owner + " has at most 20 fields", fields <= 20, true);
            for (Executable method : methods(owner)) {
                check.due(method + " has at most 7 parameters", method.getParameterCount() <= 7, true);
            }
        }
        for (String body : bodies("(?:\\w[\\w\\[\\]]* )*\\w+\\([^()]*\\)")) {
            check.due(body.lines().findFirst().get() + " has at most 60 lines", body.lines().count() <= 60, true);
        }
    }

    private void objectsAreMadeFirst() {
        check.sentence("12: objects are made by constructors and for fields, so that calls make none");
        String rest = program.replaceAll("(?m)^ +(?:private )?final [\\w\\[\\]]+ \\w+ = new .*;$", "");
        for (String body : bodies("(?:public )?[A-Z]\\w*\\([^()]*\\)")) {
            rest = rest.replace(body, "");
        }
        check.due("made elsewhere", Pattern.compile("\\bnew \\w+").matcher(rest).results()
            .map(made -> made.group()).collect(Collectors.joining(", ")), "");
    }

    /** The methods whose heads are such, each from its head to the brace that is as far in as the head. */
    private List<String> bodies(String head) {
        Pattern pattern = Pattern.compile("(?ms)^( +)" + head + " \\{$.*?^\\1\\}$");
        List<String> bodies = pattern.matcher(program).results().map(body -> body.group())
            .collect(Collectors.toList());
        check.due("methods found", bodies.isEmpty(), false);
        return bodies;
    }

    private String found(String pattern) {
        Matcher matcher = Pattern.compile(pattern).matcher(program);
        return matcher.results().map(match -> match.group()).distinct().sorted().collect(Collectors.joining(", "));
    }

    private boolean isAllowed(Class<?> type) {
        Class<?> element = type.isArray() ? type.getComponentType() : type;
        boolean ofTwoDimensions = element.isArray() && NUMBERS.contains(element.getComponentType());
        return NUMBERS.contains(element) || classes.contains(element) || ofTwoDimensions;
    }

    private static List<Executable> methods(Class<?> owner) {
        List<Executable> all = new ArrayList<>();
        for (Constructor<?> constructor : owner.getDeclaredConstructors()) {
            all.add(constructor);
        }
        for (Method method : owner.getDeclaredMethods()) {
            all.add(method);
        }
        return all;
    }

    private static String withoutComments(String text) {
        return text.replaceAll("(?s)/\\*.*?\\*/", "").replaceAll("//[^\n]*", "");
    }
}
