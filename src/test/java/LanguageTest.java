import java.io.IOException;
import java.nio.file.Files;
import java.nio.file.Path;
import java.util.regex.Matcher;
import java.util.regex.Pattern;

/** What ../shared/LANGUAGE.md forbids and a look at the words of the source can find. */
public final class LanguageTest {
    private static final String[] FORBIDDEN = {"package", "import", "try", "catch", "finally", "throw", "throws",
        "assert", "synchronized", "instanceof", "equals", "hashCode", "toString", "protected", "double", "System.out",
        "static\\s*\\{", "->", "::", "new \\w+\\[\\]\\s*\\{"};

    public static void main(String[] args) throws IOException {
        Checks.name("LANGUAGE.md");
        String source = Files.readString(Path.of("src/main/java/RevealBeacon.java"));
        String code = source.replaceAll("(?s)/\\*.*?\\*/", "").replaceAll("//[^\n]*", "");
        for (String word : FORBIDDEN) {
            Matcher m = Pattern.compile(word.matches("\\w+") ? "\\b" + word + "\\b" : word).matcher(code);
            Checks.due("the source with " + word, m.find() ? 1 : 0, 0);
        }
        checkMethods(code);
        Checks.finish("LanguageTest");
    }

    /** No method or constructor is longer than sixty lines or makes objects in the midst of a run. */
    private static void checkMethods(String code) {
        String head = "(?m)^( {8}| {4})(?=\\w)[\\w ]*?(\\w+)\\([^;]*?\\) \\{\n";
        Matcher m = Pattern.compile(head + "((?:\\1 .*\n|\\s*\n)*)").matcher(code);
        int methods = 0;
        while (m.find()) {
            methods++;
            String name = m.group(2);
            boolean constructor = Character.isUpperCase(name.charAt(0));
            Checks.due(name + " is short", m.group(3).split("\n").length < 60 ? 1 : 0, 1);
            Checks.due(name + " makes objects", !constructor && m.group(3).contains("new ") ? 1 : 0, 0);
        }
        Checks.due("methods were found", methods > 80 ? 1 : 0, 1);
    }
}
