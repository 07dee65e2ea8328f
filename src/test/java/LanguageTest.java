import java.io.IOException;
import java.nio.file.Files;
import java.nio.file.Path;
import java.util.Set;
import java.util.regex.Matcher;
import java.util.regex.Pattern;

/** The rules of LANGUAGE.md that can be seen in the text of the class. */
public final class LanguageTest {
    private static final String[] WORDS = {"throw", "throws", "try", "catch", "finally", "synchronized", "assert",
        "import", "package", "volatile", "transient", "native", "var", "equals", "hashCode", "toString", "Object", "Thread",
        "Class", "float", "double", "strictfp", "yield", "instanceof"};
    private static final Set<String> LIBRARY = Set.of("Integer.bitCount", "Math.min", "Math.max", "Math.abs",
        "System.arraycopy");
    private static final Set<String> OWN = Set.of("People", "Rules", "Days", "Trip", "Sightings", "Sheet", "int");
    private static final int LONGEST_METHOD = 60;

    public static void main(String[] args) throws IOException {
        String source = Files.readString(Path.of("src/main/java/AgeFerry.java"));
        for (char c : source.toCharArray()) {
            dueTrue("a sign up to 126, not " + (int) c, c < 127);
        }
        String code = source.replaceAll("(?s)/\\*.*?\\*/", "").replaceAll("//[^\n]*", "");
        for (String word : WORDS) {
            dueTrue("no " + word, !Pattern.compile("\\b" + word + "\\b").matcher(code).find());
        }
        for (String sign : new String[] {"->", "::", "Exact", "\"", "@", "static {"}) {
            dueTrue("no " + sign, !code.contains(sign));
        }
        all(code, "\\b(?:Integer|Long|Math|System|Arrays|String)\\.\\w+", LIBRARY);
        all(code, "(?<=\\bnew )\\w+", OWN);
        shortMethods(code);
        Check.end("LanguageTest");
    }

    private static void dueTrue(String what, boolean got) {
        Check.due(what, got ? 1 : 0, 1);
    }

    private static void all(String code, String pattern, Set<String> allowed) {
        Matcher matcher = Pattern.compile(pattern).matcher(code.replace("new AgeFerry", ""));
        while (matcher.find()) {
            dueTrue("may stand: " + matcher.group(), allowed.contains(matcher.group()));
        }
    }

    private static void shortMethods(String code) {
        Matcher matcher = Pattern.compile("(?m)^( +)[\\w\\[\\] ]+\\([^;=]*\\) \\{\n(?s:.*?)^\\1\\}").matcher(code);
        int many = 0;
        while (matcher.find()) {
            many++;
            String method = matcher.group();
            dueTrue("short: " + method.substring(0, method.indexOf('\n')), method.lines().count() <= LONGEST_METHOD);
        }
        dueTrue("methods are seen", many > 60);
    }
}
