import java.io.IOException;
import java.lang.reflect.Constructor;
import java.lang.reflect.Field;
import java.lang.reflect.Method;
import java.lang.reflect.Modifier;
import java.nio.file.Files;
import java.nio.file.Path;
import java.util.ArrayList;
import java.util.List;
import java.util.TreeSet;
import java.util.regex.Matcher;
import java.util.regex.Pattern;

/** The face of the class, and what a text search can tell of the rules of LANGUAGE.md. */
public final class FormTest {
    private static final String NO_SUCH = " throws IndexOutOfBoundsException";
    private static final String RANGE = " throws IllegalArgumentException";
    private static final String NOT_NOW = " throws IllegalStateException";
    private static final String[] FACE = {
        "int amountFor(int, int)" + NO_SUCH, "int append(int)" + RANGE + NOT_NOW, "long balance(int)" + RANGE,
        "int begin(int, int)" + RANGE, "int between(int, int, boolean)" + NO_SUCH,
        "int cell(int, int)" + NO_SUCH + RANGE, "int clearText()", "int count(int)" + RANGE,
        "long course(int)" + NO_SUCH, "int deepest()", "double depth(int)" + NO_SUCH, "long digest()",
        "int evaporate(int)" + RANGE, "int lake(int, int)" + NO_SUCH + RANGE, "long lakeCells(int)" + NO_SUCH,
        "int level(int, int)" + NO_SUCH + RANGE, "int parse()", "int pour(int, int)" + NO_SUCH + RANGE + NOT_NOW,
        "int rain(int)" + RANGE + NOT_NOW, "int rainToJoin()", "int random(int, int)" + RANGE,
        "boolean setDrain(int, boolean)" + NO_SUCH, "int setGate(int, int, int)" + NO_SUCH + RANGE,
        "int setHeight(int, int)" + NO_SUCH + RANGE, "int take(int, int)" + NO_SUCH + RANGE,
        "int undo()" + NOT_NOW, "int withoutGate(int, int)" + NO_SUCH,
    };
    /** Rules 2, 4, 5, 6, 10 and 13, as far as words tell; what the machine throws is never caught. */
    private static final String[] RULED_OUT = {
        "->", "::", "\\bfinally\\b", "\\bsynchronized\\b", "\\bassert\\b", "\\bpackage\\b", "\\bThread\\b",
        "\\bnew (Random|Scanner|File)\\b", "Exact\\(", "\" *\\+", "\\+ *\"", "[^\\x00-\\x7f]", "static \\{",
        "catch *\\( *(final )?(ArrayIndexOutOfBounds|NullPointer|ClassCast|NegativeArraySize|ArrayStore)",
        "catch *\\( *(final )?(IndexOutOfBounds|Arithmetic|Runtime)?(Exception|Error|Throwable)",
    };
    /** Rule 4: the static functions of the library. */
    private static final String LIBRARY = "(Integer|Long|Math)\\.\\w+|System\\.arraycopy"
            + "|Arrays\\.(copyOf|copyOfRange|fill)|List\\.of";
    private static final String IMPORTS = "import java\\.util\\."
            + "(Arrays|ArrayList|List|Iterator|NoSuchElementException);";
    /** Rule 6. */
    private static final String THROWN = "throw new (IllegalState|IllegalArgument|IndexOutOfBounds|Arithmetic"
            + "|UnsupportedOperation|NoSuchElement|Runtime)Exception\\((\"[^\"]*\")?\\);";

    private FormTest() {
    }

    public static void main(String[] args) throws IOException {
        String source = Files.readString(Path.of("src/main/java/LakeLevels.java"));
        face();
        classes();
        String code = source.replaceAll("(?s)/\\*.*?\\*/", "").replaceAll("//.*", "");
        words(code);
        methodLengths(source);
        callDepth(new CallGraph(code));
        Check.end();
    }

    private static void face() {
        Class<?> type = LakeLevels.class;
        Check.due("public and final", type.getModifiers(), Modifier.PUBLIC | Modifier.FINAL);
        TreeSet<String> open = new TreeSet<>();
        TreeSet<String> closed = new TreeSet<>();
        for (Method method : type.getDeclaredMethods()) {
            boolean isPrivate = Modifier.isPrivate(method.getModifiers());
            (isPrivate ? closed : open).add(isPrivate ? method.getName() : told(method));
        }
        Check.dueText("the methods", open.toString(), new TreeSet<>(List.of(FACE)).toString());
        for (Method method : type.getDeclaredMethods()) {
            boolean clash = Modifier.isPublic(method.getModifiers()) && closed.contains(method.getName());
            Check.due("a private method named " + method.getName(), clash ? 1 : 0, 0);
        }
        List<String> fields = new ArrayList<>();
        for (Field field : type.getDeclaredFields()) {
            if (!Modifier.isPrivate(field.getModifiers())) {
                fields.add(Modifier.toString(field.getModifiers()) + " " + field.getName());
            }
        }
        Check.dueText("the constants", fields.toString(), "[public static final NONE]");
        for (Constructor<?> constructor : type.getDeclaredConstructors()) {
            Check.dueText("the constructor", constructor.toString(), "public LakeLevels()");
        }
    }

    private static String told(Method method) {
        StringBuilder told = new StringBuilder().append(method.getReturnType()).append(' ').append(method.getName());
        String separator = "(";
        for (Class<?> parameter : method.getParameterTypes()) {
            told.append(separator).append(parameter);
            separator = ", ";
        }
        told.append(method.getParameterCount() == 0 ? "()" : ")");
        for (Class<?> thrown : method.getExceptionTypes()) {
            told.append(" throws ").append(thrown.getSimpleName());
        }
        return told.toString();
    }

    /** Rules 1, 2, 3, 5 and 11. */
    private static void classes() {
        Class<?>[] nested = LakeLevels.class.getDeclaredClasses();
        Check.due("some twelve classes at most", nested.length < 12 ? 1 : 0, 1);
        fields(LakeLevels.class);
        parameters(LakeLevels.class);
        for (Class<?> type : nested) {
            boolean open = Modifier.isPublic(type.getModifiers()) || Modifier.isProtected(type.getModifiers());
            Check.due("private or package-visible: " + type, open ? 1 : 0, 0);
            Check.due("static: " + type, Modifier.isStatic(type.getModifiers()) ? 1 : 0, 1);
            fields(type);
            parameters(type);
        }
    }

    private static void fields(Class<?> type) {
        int fields = 0;
        for (Field field : type.getDeclaredFields()) {
            boolean fixed = Modifier.isStatic(field.getModifiers());
            fields += fixed ? 0 : 1;
            Check.due("static fields are final: " + field,
                    !fixed || Modifier.isFinal(field.getModifiers()) ? 1 : 0, 1);
            Class<?> kind = field.getType().isArray() ? field.getType().getComponentType() : field.getType();
            boolean own = kind.isPrimitive() || kind.getName().startsWith("LakeLevels");
            boolean library = kind == String.class || kind == StringBuilder.class || List.class.isAssignableFrom(kind);
            Check.due("the type of " + field, own || library ? 1 : 0, 1);
        }
        Check.due("some twenty fields at most: " + type, fields <= 20 ? 1 : 0, 1);
    }

    private static void parameters(Class<?> type) {
        for (Method method : type.getDeclaredMethods()) {
            Check.due("at most seven parameters: " + method, method.getParameterCount() <= 7 ? 1 : 0, 1);
        }
    }

    private static void words(String code) {
        for (String word : RULED_OUT) {
            Check.due("how often there is " + word, Pattern.compile(word).matcher(code).results().count(), 0);
        }
        dueAll("imports", code, "import [^;]*;", IMPORTS);
        dueAll("functions of the library", code, "\\b(Integer|Long|Math|System|Arrays|List|String)\\.\\w+(?=\\()", LIBRARY);
        dueAll("what is thrown", code, "throw [^;]*;", THROWN);
        dueAll("classes of the library", code,
                "\\bnew (ArrayList|StringBuilder|String|[A-Z]\\w*Exception|[A-Z]\\w*)\\b",
                "new (ArrayList|StringBuilder|String|" + ownClasses() + "|[A-Z]\\w*Exception)");
    }

    private static String ownClasses() {
        StringBuilder names = new StringBuilder("LakeLevels");
        for (Class<?> type : LakeLevels.class.getDeclaredClasses()) {
            names.append('|').append(type.getSimpleName());
        }
        return names.toString();
    }

    private static void dueAll(String what, String code, String found, String allowed) {
        Matcher matcher = Pattern.compile(found).matcher(code);
        while (matcher.find()) {
            Check.due(what + ": " + matcher.group(), matcher.group().matches(allowed) ? 1 : 0, 1);
        }
    }

    private static void methodLengths(String source) {
        int start = 0;
        String[] lines = source.split("\n");
        for (int i = 0; i < lines.length; i++) {
            if (lines[i].matches(" {4}(    )?(public|private|[a-z]+).*\\{") && !lines[i].contains(" class ")) {
                start = i;
            } else if (lines[i].matches(" {4}(    )?\\}")) {
                Check.due("length of the method in line " + (start + 1), i - start < 60 ? 1 : 0, 1);
            }
        }
    }

    /** Rules 8 and 11; that the graph has the methods which reflection finds shows that it has read the text well. */
    private static void callDepth(CallGraph graph) {
        TreeSet<String> declared = new TreeSet<>();
        methodNames(LakeLevels.class, declared);
        for (Class<?> type : LakeLevels.class.getDeclaredClasses()) {
            methodNames(type, declared);
        }
        TreeSet<String> read = new TreeSet<>(graph.methods());
        read.removeIf(name -> name.matches("(\\w+)\\.\\1"));
        Check.dueText("the methods that the text has", read.toString(), declared.toString());
        Check.due("calls at most eight deep: " + graph.deepest(), graph.deepest() <= 8 ? 1 : 0, 1);
    }

    private static void methodNames(Class<?> type, TreeSet<String> names) {
        for (Method method : type.getDeclaredMethods()) {
            String name = type.getSimpleName() + "." + method.getName();
            Check.due("one method alone is " + name, names.add(name) ? 1 : 0, 1);
        }
    }
}
