import java.io.IOException;
import java.lang.reflect.Field;
import java.lang.reflect.Modifier;
import java.nio.file.Files;
import java.nio.file.Path;
import java.util.Set;
import java.util.regex.Matcher;
import java.util.regex.Pattern;

/** Rules of ../shared/LANGUAGE.md that can be read off the text of ScanDetector.java, comments left out. */
public final class LanguageTest {
    private static final String[] WORDS_LEFT_OUT = {
        "package", "catch", "try", "finally", "throw", "throws", "synchronized", "assert", "volatile", "native", "Object",
        "Double", "Float", "Random", "Thread", "System", "Optional", "HashMap", "HashSet", "Map", "Set", "var"
    };
    private static final Set<String> LIBRARY = Set.of(
        "Arrays.fill", "Arrays.copyOf", "Arrays.copyOfRange", "Math.max", "Math.min", "Math.abs", "Math.floorMod", "Math.floorDiv");
    private static final Set<String> IMPORTS = Set.of("java.util.Arrays");

    private static final Due DUE = new Due();

    public static void main(String[] args) throws IOException {
        String text = Files.readString(Path.of(System.getProperty("source", "src/main/java/ScanDetector.java")));
        String code = text.replaceAll("(?s)/\\*.*?\\*/", "").replaceAll("//[^\n]*", "");
        for (String word : WORDS_LEFT_OUT) {
            DUE.isTrue("no '" + word + "'", !Pattern.compile("\\b" + word + "\\b").matcher(code).find());
        }
        DUE.isTrue("no lambda and no method reference", !code.contains("->") && !code.contains("::"));
        DUE.isTrue("signs 1 to 127 alone", text.chars().allMatch(c -> c >= 1 && c <= 127));
        each(code, "import ([\\w.*]+);", IMPORTS);
        each(code, "\\b((?!ScanDetector)[A-Z]\\w*\\.\\w+)\\(", LIBRARY);
        staticFieldsAreFinal(code);
        divisorsAreConstants(code);
        sizesAreSmall(text, code);
        DUE.end();
    }

    private static void each(String code, String pattern, Set<String> allowed) {
        Matcher matcher = Pattern.compile(pattern).matcher(code);
        while (matcher.find()) {
            DUE.isTrue(matcher.group(1) + " is in the library that is allowed", allowed.contains(matcher.group(1)));
        }
    }

    private static void staticFieldsAreFinal(String code) {
        Matcher matcher = Pattern.compile("static ([^({;]*)[=;]").matcher(code);
        while (matcher.find()) {
            DUE.isTrue("static " + matcher.group(1).trim() + " is a constant", matcher.group(1).matches("final (int|long|boolean|char|String) .*"));
        }
    }

    /** A divisor is a number, a constant, or the number of cells behind its test. */
    private static void divisorsAreConstants(String code) {
        Matcher matcher = Pattern.compile("([^\n;]*)[/%]\\s*(\\w[\\w.]*)").matcher(code);
        while (matcher.find()) {
            boolean constant = matcher.group(2).matches("[1-9][0-9.]*|[A-Z_]+");
            boolean tested = matcher.group(1).contains(matcher.group(2) + " > 0 ?");
            DUE.isTrue("divisor " + matcher.group(2) + " is looked at before it divides", constant || tested);
        }
    }

    /** Rule 11: classes, fields, parameters, and the lines of a method. */
    private static void sizesAreSmall(String text, String code) {
        int classes = count(code, "\\bclass \\w+");
        DUE.isTrue(classes + " classes, twelve at most", classes >= 1 && classes <= 12);
        fewFields(ScanDetector.class);
        for (Class<?> inner : ScanDetector.class.getDeclaredClasses()) {
            fewFields(inner);
        }
        // a method ends at the first closing brace that stands as far to the right as it began
        Matcher method = Pattern.compile("(?ms)^( +)(?:public|private)[^;={(]*\\(([^)]*)\\) \\{\n.*?^\\1\\}$").matcher(text);
        int methods = 0;
        while (method.find()) {
            String head = method.group().substring(0, method.group().indexOf('{')).trim();
            DUE.isTrue(head + " has at most 60 lines", method.group().lines().count() <= 60);
            DUE.isTrue(head + " has at most seven parameters", method.group(2).split(",").length <= 7);
            methods++;
        }
        DUE.is("methods and constructors that were measured", methods, count(code, "(?m)^ +(public|private)[^;={(]*\\([^)]*\\) \\{$"));
    }

    private static void fewFields(Class<?> type) {
        int fields = 0;
        for (Field field : type.getDeclaredFields()) {
            fields += Modifier.isStatic(field.getModifiers()) ? 0 : 1;
        }
        DUE.isTrue(type.getName() + " has at most twenty fields", fields <= 20);
    }

    private static int count(String code, String pattern) {
        return (int) Pattern.compile(pattern).matcher(code).results().count();
    }
}
