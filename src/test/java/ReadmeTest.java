import java.io.IOException;
import java.lang.reflect.InvocationTargetException;
import java.lang.reflect.Method;
import java.nio.file.Files;
import java.nio.file.Path;
import java.util.ArrayList;
import java.util.List;
import java.util.regex.Matcher;
import java.util.regex.Pattern;

/** The README's examples answer as they say there, and its tables tell what the promises and the class have. */
public final class ReadmeTest {
    private static final Pattern NEW_OBJECT = Pattern.compile("LakeLevels water = new LakeLevels\\(\\);");
    private static final Pattern TEXT = Pattern.compile("for \\(char sign : \"(.*)\"\\.toCharArray\\(\\)\\) "
            + "\\{ water\\.append\\(sign\\); }");
    private static final Pattern CALL = Pattern.compile("water\\.(\\w+)\\((.*?)\\); +// "
            + "(-?[0-9.]*[0-9]|throws \\w+)\\b.*");
    private static final Pattern ROW = Pattern.compile("\\| `(\\w+)\\((.*?)\\)` \\|.*\\|.*\\|(.*)\\|(.*)\\|");
    private static final Pattern WHAT_ROW = Pattern.compile("\\| (\\d) \\|(.*)\\|(.*)\\|(.*)\\|(.*)\\|");
    /** The promises from the 2nd on; those with a star are undoable. */
    private static final String[] PROMISED = {
        "begin*", "setHeight*", "setDrain*", "setGate*", "random*", "cell", "between", "count",
        "pour*", "rain*", "evaporate*", "take*", "balance", "lake", "lakeCells", "level", "depth", "deepest", "course",
        "amountFor", "rainToJoin", "withoutGate", "append", "clearText", "parse*", "undo", "digest",
    };
    private static final String[] ASKED_BY_WHAT = {"cell", "count", "lake", "balance"};

    private ReadmeTest() {
    }

    public static void main(String[] args) throws IOException {
        List<String> lines = Files.readAllLines(Path.of("README.md"));
        examples(lines);
        calls(lines);
        whats(lines);
        Check.end();
    }

    private static void examples(List<String> lines) {
        boolean inside = false;
        int made = 0;
        LakeLevels water = null;
        for (String line : lines) {
            if (line.startsWith("```")) {
                inside = line.equals("```java");
            } else if (inside && NEW_OBJECT.matcher(line).matches()) {
                water = new LakeLevels();
            } else if (inside) {
                example(water, line);
                made++;
            }
        }
        Check.due("lines of examples", made >= 20 ? 1 : 0, 1);
    }

    private static void example(LakeLevels water, String line) {
        Matcher text = TEXT.matcher(line);
        Matcher call = CALL.matcher(line);
        if (text.matches()) {
            Made.write(water, text.group(1));
        } else if (call.matches()) {
            Check.dueText(line, answered(water, call.group(1), call.group(2)), call.group(3));
        } else {
            Check.dueText("a line of an example", line, "water.name(arguments); // answer");
        }
    }

    private static String answered(LakeLevels water, String name, String arguments) {
        Method method = methodNamed(name);
        Class<?>[] types = method.getParameterTypes();
        String[] words = arguments.isEmpty() ? new String[0] : arguments.split(", ");
        Object[] values = new Object[types.length];
        for (int i = 0; i < values.length; i++) {
            values[i] = types[i] == boolean.class ? (Object) words[i].equals("true") : (Object) number(words[i]);
        }
        try {
            return method.invoke(water, values).toString();
        } catch (InvocationTargetException e) {
            return "throws " + e.getCause().getClass().getSimpleName();
        } catch (IllegalAccessException e) {
            return "not public";
        }
    }

    private static int number(String word) {
        return word.startsWith("'") ? word.charAt(1) : Integer.parseInt(word);
    }

    private static Method methodNamed(String name) {
        for (Method method : LakeLevels.class.getMethods()) {
            if (method.getName().equals(name) && method.getDeclaringClass() == LakeLevels.class) {
                return method;
            }
        }
        throw new IllegalArgumentException("no method " + name);
    }

    /** One row for each method, in the order of the promises, with the exceptions that it declares. */
    private static void calls(List<String> lines) {
        List<String> told = new ArrayList<>();
        for (String line : lines) {
            Matcher row = ROW.matcher(line);
            if (row.matches()) {
                told.add(row.group(1) + (row.group(3).contains("undoable") ? "*" : ""));
                call(row);
            }
        }
        Check.dueText("the rows of calls", told.toString(), List.of(PROMISED).toString());
    }

    private static void call(Matcher row) {
        String name = row.group(1);
        Method method = methodNamed(name);
        int arguments = row.group(2).isEmpty() ? 0 : row.group(2).split(", ").length;
        Check.due("arguments of " + name, arguments, method.getParameterCount());
        StringBuilder thrown = new StringBuilder();
        for (Class<?> type : method.getExceptionTypes()) {
            thrown.append(thrown.length() == 0 ? "" : ", ").append(type.getSimpleName());
        }
        Check.dueText("what throws " + name, row.group(4).trim(), thrown.toString());
    }

    /** A value is told exactly where the call answers. */
    private static void whats(List<String> lines) {
        LakeLevels water = new LakeLevels();
        int rows = 0;
        for (String line : lines) {
            Matcher row = WHAT_ROW.matcher(line);
            if (row.matches()) {
                Check.dueText("the row", row.group(1), "" + rows);
                for (int i = 0; i < ASKED_BY_WHAT.length; i++) {
                    String name = ASKED_BY_WHAT[i];
                    String arguments = methodNamed(name).getParameterCount() == 2 ? "0, " + rows : "" + rows;
                    boolean refused = answered(water, name, arguments).equals("throws IllegalArgumentException");
                    Check.due(name + " " + rows + " told", row.group(i + 2).isBlank() ? 0 : 1, refused ? 0 : 1);
                }
                rows++;
            }
        }
        Check.due("rows for what", rows, 10);
        Check.dueText("what after the last row", answered(water, "lake", "0, 10"), "throws IllegalArgumentException");
    }
}
