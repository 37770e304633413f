import java.io.IOException;
import java.nio.file.Files;
import java.nio.file.Path;
import java.util.Set;
import java.util.regex.Matcher;
import java.util.regex.Pattern;

/** Rules of ../shared/LANGUAGE.md that can be read off the text of ScanDetector.java, comments left out. */
public final class LanguageTest {
    private static final String[] WORDS_LEFT_OUT = {
        "package", "catch", "try", "finally", "throw", "throws", "synchronized", "assert", "volatile", "native", "Object",
        "Double", "Float", "Random", "Thread", "System", "Optional", "HashMap", "HashSet", "Map", "Set", "var"
    };
    private static final Set<String> LIBRARY = Set.of(
        "Arrays.fill", "Arrays.copyOf", "Arrays.copyOfRange", "Math.max", "Math.min", "Math.abs", "Math.floorMod", "Math.floorDiv");
    private static final Set<String> IMPORTS = Set.of("java.util.Arrays");

    private static final Due DUE = new Due();

    public static void main(String[] args) throws IOException {
        String text = Files.readString(Path.of(System.getProperty("source", "src/main/java/ScanDetector.java")));
        String code = text.replaceAll("(?s)/\\*.*?\\*/", "").replaceAll("//[^\n]*", "");
        for (String word : WORDS_LEFT_OUT) {
            DUE.isTrue("no '" + word + "'", !Pattern.compile("\\b" + word + "\\b").matcher(code).find());
        }
        DUE.isTrue("no lambda and no method reference", !code.contains("->") && !code.contains("::"));
        DUE.isTrue("signs 1 to 127 alone", text.chars().allMatch(c -> c >= 1 && c <= 127));
        each(code, "import ([\\w.*]+);", IMPORTS);
        each(code, "\\b((?!ScanDetector)[A-Z]\\w*\\.\\w+)\\(", LIBRARY);
        staticFieldsAreFinal(code);
        divisorsAreConstants(code);
        DUE.is("classes inside, twelve at most", Math.max(12, count(code, "\\bclass \\w+") - 1), 12);
        DUE.end();
    }

    private static void each(String code, String pattern, Set<String> allowed) {
        Matcher matcher = Pattern.compile(pattern).matcher(code);
        while (matcher.find()) {
            DUE.isTrue(matcher.group(1) + " is in the library that is allowed", allowed.contains(matcher.group(1)));
        }
    }

    private static void staticFieldsAreFinal(String code) {
        Matcher matcher = Pattern.compile("static ([^({;]*)[=;]").matcher(code);
        while (matcher.find()) {
            DUE.isTrue("static " + matcher.group(1).trim() + " is a constant", matcher.group(1).matches("final (int|long|boolean|char|String) .*"));
        }
    }

    /** A divisor is a number, a constant, or the number of cells behind its test. */
    private static void divisorsAreConstants(String code) {
        Matcher matcher = Pattern.compile("([^\n;]*)[/%]\\s*(\\w[\\w.]*)").matcher(code);
        while (matcher.find()) {
            boolean constant = matcher.group(2).matches("[1-9][0-9.]*|[A-Z_]+");
            boolean tested = matcher.group(1).contains(matcher.group(2) + " > 0 ?");
            DUE.isTrue("divisor " + matcher.group(2) + " is looked at before it divides", constant || tested);
        }
    }

    private static int count(String code, String pattern) {
        return (int) Pattern.compile(pattern).matcher(code).results().count();
    }
}
