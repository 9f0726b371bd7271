import java.io.IOException;
import java.lang.reflect.Method;
import java.nio.file.Files;
import java.nio.file.Path;
import java.util.ArrayList;
import java.util.List;
import java.util.Map;
import java.util.TreeMap;
import java.util.regex.Matcher;
import java.util.regex.Pattern;

/** What README.md tells of the class: the answers of its example, its constants, its calls and their error codes. */
public final class ReadmeTest {
    private static final Path DOCUMENT = Path.of("../shared/DOC.md");
    private static final Map<String, Integer> CONSTANTS = Map.of("BAD", RevealBeacon.BAD, "STATE", RevealBeacon.STATE,
        "FULL", RevealBeacon.FULL, "NONE", RevealBeacon.NONE);

    private ReadmeTest() {
    }

    public static void main(String[] args) throws IOException, ReflectiveOperationException {
        Checks.name("README.md");
        String text = Files.readString(Path.of("README.md"));
        playExample(text);
        checkConstants(text);
        if (Files.isReadable(DOCUMENT)) {
            checkCalls(text);
        } else {
            System.out.println("there is no " + DOCUMENT + " to compare the tables with");
        }
        Checks.finish("ReadmeTest");
    }

    /** Each line of the example is called, with the answer that its comment tells first. */
    private static void playExample(String text) throws ReflectiveOperationException {
        RevealBeacon beacon = new RevealBeacon();
        Matcher m = Pattern.compile("(?m)^beacon\\.(\\w+)\\(([0-9, ]*)\\); *// ([-\\w.]+)").matcher(text);
        int lines = 0;
        while (m.find()) {
            lines++;
            Integer constant = CONSTANTS.get(m.group(3));
            String want = constant == null ? m.group(3) : constant.toString();
            Checks.same(m.group(1) + "(" + m.group(2) + ")", call(beacon, m.group(1), numbers(m.group(2))), want);
        }
        Checks.due("lines of the example", lines, text.split("\nbeacon\\.", -1).length - 1);
        Checks.due("it has many lines", lines > 10 ? 1 : 0, 1);
    }

    private static Object[] numbers(String list) {
        List<Object> numbers = new ArrayList<>();
        for (String number : list.split(", ")) {
            if (!number.isEmpty()) {
                numbers.add(Integer.valueOf(number));
            }
        }
        return numbers.toArray();
    }

    private static String call(RevealBeacon beacon, String name, Object[] arguments) throws ReflectiveOperationException {
        for (Method m : RevealBeacon.class.getMethods()) {
            if (m.getName().equals(name) && m.getParameterCount() == arguments.length) {
                return m.invoke(beacon, arguments).toString();
            }
        }
        return "no such method";
    }

    private static void checkConstants(String text) {
        CONSTANTS.forEach((name, value) ->
            Checks.due("the row of " + name, text.contains("\n| `" + name + "` | " + value + " | ") ? 1 : 0, 1));
    }

    /** The tables have a row for each method, with as many parameters and the error codes that the document tells. */
    private static void checkCalls(String text) throws IOException {
        Map<String, String> rows = new TreeMap<>();
        Matcher m = Pattern.compile("(?m)^\\| `(\\w+)\\(([\\w, ]*)\\)` \\|.*\\|(.*)\\|$").matcher(text);
        while (m.find()) {
            Checks.due("one row of " + m.group(1), rows.containsKey(m.group(1)) ? 2 : 1, 1);
            rows.put(m.group(1), m.group(2) + " " + codesIn(m.group(3)));
        }
        Checks.same("the calls", rows.toString(), callsOfDocument().toString());
    }

    private static Map<String, String> callsOfDocument() throws IOException {
        Map<String, String> calls = new TreeMap<>();
        for (String promise : Files.readString(DOCUMENT).split("\n## ")) {
            Matcher head = Pattern.compile("(?m)^`(?:int|float) (\\w+)\\(([\\w, ]*)\\)`$").matcher(promise);
            if (head.find()) {
                String parameters = head.group(2).replace("int ", "");
                calls.put(head.group(1), parameters + " " + codesIn(promise));
            }
        }
        return calls;
    }

    private static String codesIn(String text) {
        StringBuilder codes = new StringBuilder();
        for (String code : List.of("BAD", "STATE", "FULL")) {
            codes.append(Pattern.compile("\\b" + code + "\\b").matcher(text).find() ? code + " " : "");
        }
        return codes.toString();
    }
}
