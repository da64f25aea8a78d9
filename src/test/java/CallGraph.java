import java.util.ArrayDeque;
import java.util.HashMap;
import java.util.LinkedHashMap;
import java.util.Map;
import java.util.Set;
import java.util.regex.Matcher;
import java.util.regex.Pattern;

/**
 * Which method of a source calls which one, as far as its text tells it: the type of a call's object is known
 * by the last name before its point, if this name is declared with one type alone.
 */
final class CallGraph {
    /** Far above what any program without recursion has. */
    private static final int ENDLESS = 1000;
    private static final String UNKNOWN = "";
    private static final Pattern CLASS = Pattern.compile(" *(?:\\w+ )*class (\\w+).*");
    private static final Pattern METHOD = Pattern.compile(
            "    (?:    )?(?:(?:public|private|static) )*(?:[\\w\\[\\]]+ )?(\\w+)\\((?:[^()]*)\\).*");
    private static final Pattern DECLARED = Pattern.compile("\\b([A-Z]\\w+) (\\w+)(?= ?[=,);])");
    private static final Pattern CALLED = Pattern.compile("(new )?(?:(\\w+|\\))\\.)?(\\b\\w+)\\(");

    private final Map<String, String> types = new HashMap<>();
    private final Map<String, String> bodies = new LinkedHashMap<>();
    private final Map<String, Integer> depths = new HashMap<>();
    private final ArrayDeque<String> open = new ArrayDeque<>();
    private String outer = "";

    CallGraph(String code) {
        String[] lines = code.split("\n");
        String type = "";
        String method = "";
        for (String line : lines) {
            Matcher isClass = CLASS.matcher(line);
            Matcher isMethod = METHOD.matcher(line);
            if (isClass.matches()) {
                type = isClass.group(1);
                outer = outer.isEmpty() ? type : outer;
            } else if (isMethod.matches() && !line.endsWith(";")) {
                method = type + "." + isMethod.group(1);
                bodies.put(method, line.contains("{") ? line.substring(line.indexOf('{')) + "\n" : "");
            } else {
                bodies.computeIfPresent(method, (name, body) -> body + line + "\n");
            }
            note(line);
        }
    }

    private void note(String line) {
        Matcher declared = DECLARED.matcher(line);
        while (declared.find()) {
            types.merge(declared.group(2), declared.group(1), (one, two) -> one.equals(two) ? one : UNKNOWN);
        }
    }

    /** As Type.name, constructors too. */
    Set<String> methods() {
        return bodies.keySet();
    }

    /** The most calls that stand open at once, the library's own included; ENDLESS or more with recursion. */
    int deepest() {
        int most = 0;
        for (String method : bodies.keySet()) {
            most = Math.max(most, depthOf(method));
        }
        return most;
    }

    private int depthOf(String method) {
        if (open.contains(method)) {
            return ENDLESS;
        }
        if (!depths.containsKey(method)) {
            open.push(method);
            int inner = 0;
            Matcher called = CALLED.matcher(bodies.get(method));
            while (called.find()) {
                inner = Math.max(inner, depthOf(method, called));
            }
            open.pop();
            depths.put(method, 1 + inner);
        }
        return depths.get(method);
    }

    private int depthOf(String from, Matcher called) {
        String name = called.group(3);
        if (name.matches("if|for|while|switch|return|catch")) {
            return 0;
        }
        String own = from.substring(0, from.indexOf('.'));
        String object = called.group(2);
        if (called.group(1) != null) {
            return depthIn(name, name);
        }
        if (object == null) {
            return depthIn(bodies.containsKey(own + "." + name) ? own : outer, name);
        }
        boolean isType = Character.isUpperCase(object.charAt(0));
        String type = isType ? object : types.getOrDefault(object, UNKNOWN);
        return type.equals(UNKNOWN) ? depthInAny(name) : depthIn(type, name);
    }

    /** What is not of this source is the library's, and one call deep. */
    private int depthIn(String type, String name) {
        return bodies.containsKey(type + "." + name) ? depthOf(type + "." + name) : 1;
    }

    /** The worst of all methods with this name, for an object of which the text does not tell the type. */
    private int depthInAny(String name) {
        int most = 1;
        for (String method : bodies.keySet()) {
            most = method.endsWith("." + name) ? Math.max(most, depthOf(method)) : most;
        }
        return most;
    }
}
