import java.io.IOException;
import java.lang.reflect.Field;
import java.lang.reflect.Method;
import java.lang.reflect.Modifier;
import java.nio.file.Files;
import java.nio.file.Path;
import java.util.ArrayList;
import java.util.List;
import java.util.Set;
import java.util.regex.Matcher;
import java.util.regex.Pattern;

/** The rules of ../shared/LANGUAGE.md that can be seen from the text of the class, or by reflection. */
public final class LanguageTest {
    private static final Path SOURCE = Path.of("src", "main", "java", "LagoonGates.java");
    private static final int MOST_LINES = 60;
    private static final int MOST_PARAMETERS = 7;
    private static final int MOST_CLASSES = 12;
    private static final int MOST_FIELDS = 20;

    // The library that the class uses is far less than what the rules allow.
    private static final Set<String> LIBRARY =
            Set.of("Math.abs", "Math.max", "Math.min", "Math.floorDiv", "Math.floorMod", "System.arraycopy");

    private static final List<String> NOT_USED = List.of("package", "import", "protected", "try", "catch", "throw",
            "throws", "finally", "synchronized", "assert", "instanceof", "volatile", "transient", "native", "while",
            "double", "String", "StringBuilder", "Object", "null", "enum", "record(?! *\\()", "interface", "extends");

    private static final Due DUE = new Due("LanguageTest");

    public static void main(String[] args) throws IOException {
        String source = Files.readString(SOURCE);
        DUE.holds("only characters up to 126", source.chars().allMatch(c -> c == '\n' || c >= 32 && c <= 126));
        String code = withoutComments(source);
        for (String word : NOT_USED) {
            DUE.holds("the word is not used: " + word, !Pattern.compile("\\b" + word + "\\b").matcher(code).find());
        }
        DUE.holds("no lambda, no method reference", !code.contains("->") && !code.contains("::"));
        DUE.holds("no static block", !Pattern.compile("\\bstatic\\s*\\{").matcher(code).find());
        libraryIsKept(code);
        nothingIsMadeByCalls(code);
        methodsAreShort(code);
        membersAreFew();
        DUE.end();
    }

    private static String withoutComments(String source) {
        return source.replaceAll("(?s)/\\*.*?\\*/", "").replaceAll("//[^\n]*", "");
    }

    private static void libraryIsKept(String code) {
        Matcher used = Pattern.compile("\\b[A-Z][a-z]\\w*\\.\\w+").matcher(code);
        while (used.find()) {
            DUE.holds("in the library: " + used.group(), LIBRARY.contains(used.group()));
        }
    }

    /** Every "new" stands in the constructor of LagoonGates or in the first value of a field. */
    private static void nothingIsMadeByCalls(String code) {
        for (String line : code.split("\n")) {
            if (line.contains("new ")) {
                boolean field = line.matches(" {8}(private )?final \\w+\\[\\] \\w+ = .*;");
                boolean constructor = line.matches(" {8}\\w+ = new \\w+\\(\\);");
                DUE.holds("made once only: " + line.trim(), field || constructor);
            }
        }
    }

    private static void methodsAreShort(String code) {
        Pattern head = Pattern.compile("( {4}| {8})(?!if|for|switch|return)[a-zA-Z][\\w \\[\\]]*\\(.*\\) \\{");
        List<String> lines = List.of(code.split("\n"));
        int found = 0;
        for (int i = 0; i < lines.size(); i++) {
            Matcher matcher = head.matcher(lines.get(i));
            if (matcher.matches()) {
                found++;
                int end = i;
                while (!lines.get(end).equals(matcher.group(1) + "}")) {
                    end++;
                }
                DUE.holds("short: " + lines.get(i).trim(), end - i + 1 <= MOST_LINES);
            }
        }
        DUE.holds("methods were found", found > 50);
    }

    private static void membersAreFew() {
        List<Class<?>> classes = new ArrayList<>(List.of(LagoonGates.class.getDeclaredClasses()));
        classes.add(LagoonGates.class);
        DUE.holds("few classes", classes.size() <= MOST_CLASSES);
        for (Class<?> one : classes) {
            int fields = 0;
            for (Field field : one.getDeclaredFields()) {
                fields += Modifier.isStatic(field.getModifiers()) ? 0 : 1;
            }
            DUE.holds("few fields: " + one.getName(), fields <= MOST_FIELDS);
            for (Method method : one.getDeclaredMethods()) {
                DUE.holds("few parameters: " + method.getName(), method.getParameterCount() <= MOST_PARAMETERS);
            }
        }
    }
}
