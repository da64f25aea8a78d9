import java.io.IOException;
import java.lang.reflect.Constructor;
import java.lang.reflect.Field;
import java.lang.reflect.Method;
import java.lang.reflect.Modifier;
import java.nio.file.Files;
import java.nio.file.Path;
import java.util.ArrayList;
import java.util.List;
import java.util.TreeSet;
import java.util.regex.Matcher;
import java.util.regex.Pattern;

/** The face of the class, and what a text search can tell of the rules of LANGUAGE.md. */
public final class FormTest {
    private static final String[] FACE = {
        "int amountFor(int, int)", "int append(int)", "long balance(int)", "int begin(int, int)",
        "int between(int, int, boolean)", "int cell(int, int)", "int clearText()", "int count(int)",
        "long course(int)", "int deepest()", "double depth(int)", "long digest()", "int evaporate(int)",
        "int lake(int, int)", "long lakeCells(int)", "int level(int, int)", "int parse()", "int pour(int, int)",
        "int rain(int)", "int rainToJoin()", "int random(int, int)", "boolean setDrain(int, boolean)",
        "int setGate(int, int, int)", "int setHeight(int, int)", "int take(int, int)", "int undo()",
        "int withoutGate(int, int)",
    };
    /** Rules 2, 4, 6, 10 and 13, as far as words tell; rule 7 leaves nothing to be caught. */
    private static final String[] RULED_OUT = {
        "->", "::", "\\bcatch\\b", "\\bfinally\\b", "\\btry\\b", "\\bsynchronized\\b", "\\bassert\\b",
        "\\bpackage\\b", "Exact\\(", "\\bStream\\b", "String\\.format", "System\\.(out|err|nano|current)",
        "\\bThread\\b", "\\bMap\\b", "\\bSet\\b", "\" *\\+", "\\+ *\"", "[^\\x00-\\x7f]", "static \\{",
    };

    private FormTest() {
    }

    public static void main(String[] args) throws IOException {
        String source = Files.readString(Path.of("src/main/java/LakeLevels.java"));
        face();
        nestedClasses();
        words(source);
        methodLengths(source);
        Check.end();
    }

    private static void face() {
        Class<?> type = LakeLevels.class;
        Check.due("public and final", type.getModifiers(), Modifier.PUBLIC | Modifier.FINAL);
        TreeSet<String> open = new TreeSet<>();
        TreeSet<String> closed = new TreeSet<>();
        for (Method method : type.getDeclaredMethods()) {
            boolean isPrivate = Modifier.isPrivate(method.getModifiers());
            (isPrivate ? closed : open).add(isPrivate ? method.getName() : told(method));
        }
        Check.dueText("the methods", open.toString(), new TreeSet<>(List.of(FACE)).toString());
        for (Method method : type.getDeclaredMethods()) {
            boolean clash = Modifier.isPublic(method.getModifiers()) && closed.contains(method.getName());
            Check.due("a private method named " + method.getName(), clash ? 1 : 0, 0);
        }
        List<String> fields = new ArrayList<>();
        for (Field field : type.getDeclaredFields()) {
            if (!Modifier.isPrivate(field.getModifiers())) {
                fields.add(Modifier.toString(field.getModifiers()) + " " + field.getName());
            }
        }
        Check.dueText("the constants", fields.toString(), "[public static final NONE]");
        for (Constructor<?> constructor : type.getDeclaredConstructors()) {
            Check.dueText("the constructor", constructor.toString(), "public LakeLevels()");
        }
    }

    private static String told(Method method) {
        StringBuilder told = new StringBuilder().append(method.getReturnType()).append(' ').append(method.getName());
        String separator = "(";
        for (Class<?> parameter : method.getParameterTypes()) {
            told.append(separator).append(parameter);
            separator = ", ";
        }
        return told.append(method.getParameterCount() == 0 ? "()" : ")").toString();
    }

    private static void nestedClasses() {
        Class<?>[] nested = LakeLevels.class.getDeclaredClasses();
        Check.due("at most twelve classes", nested.length < 12 ? 1 : 0, 1);
        for (Class<?> type : nested) {
            int fields = 0;
            for (Field field : type.getDeclaredFields()) {
                fields++;
                boolean fine = !Modifier.isStatic(field.getModifiers()) || Modifier.isFinal(field.getModifiers());
                Check.due("static fields are final: " + field, fine ? 1 : 0, 1);
            }
            Check.due("at most twenty fields: " + type, fields <= 20 ? 1 : 0, 1);
            Check.due("private static: " + type,
                    type.getModifiers() & (Modifier.PRIVATE | Modifier.STATIC), Modifier.PRIVATE | Modifier.STATIC);
        }
    }

    private static void words(String source) {
        String code = source.replaceAll("(?s)/\\*.*?\\*/", "").replaceAll("//.*", "");
        for (String word : RULED_OUT) {
            Check.due("how often there is " + word, Pattern.compile(word).matcher(code).results().count(), 0);
        }
        Matcher imports = Pattern.compile("import .*").matcher(code);
        while (imports.find()) {
            Check.dueText("imports", imports.group(), "import java.util.Arrays;");
        }
    }

    private static void methodLengths(String source) {
        int start = 0;
        String[] lines = source.split("\n");
        for (int i = 0; i < lines.length; i++) {
            if (lines[i].matches(" {4}(    )?(public|private|[a-z]+).*\\{") && !lines[i].contains(" class ")) {
                start = i;
            } else if (lines[i].matches(" {4}(    )?\\}")) {
                Check.due("length of the method in line " + (start + 1), i - start < 60 ? 1 : 0, 1);
            }
        }
    }
}
