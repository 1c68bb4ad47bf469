import java.io.IOException;
import java.nio.file.Files;
import java.nio.file.Path;
import java.util.List;
import java.util.Set;
import java.util.regex.Matcher;
import java.util.regex.Pattern;

/** What of ../shared/LANGUAGE.md can be seen from the words of the program; its file is the argument. */
public final class LanguageTest {
    private static final Checks checks = new Checks();

    // some of them the rules leave for a few uses, but the program needs none of these
    private static final Set<String> WORDS_THAT_ARE_OUT = Set.of(
        "throw", "throws", "try", "catch", "finally", "synchronized", "assert", "package", "import", "volatile",
        "native", "transient", "protected", "Object", "Thread", "Random", "Class", "equals", "hashCode", "toString",
        "NaN", "var", "yield", "strictfp", "sealed");

    private static final Set<String> LIBRARY = Set.of("System", "Math", "NoticeShifts");

    private static final List<String> SIGNS_THAT_ARE_OUT = List.of("->", "::", "@", "\"", "\\");

    public static void main(String[] args) throws IOException {
        String text = Files.readString(Path.of(args.length > 0 ? args[0] : "src/main/java/NoticeShifts.java"));
        String code = withoutComments(text);
        words(code);
        signs(text, code);
        library(code);
        lengthsOfMethods(code);
        checks.finish();
    }

    private static String withoutComments(String text) {
        return Pattern.compile("/\\*.*?\\*/", Pattern.DOTALL).matcher(text).replaceAll("").replaceAll("//[^\n]*", "");
    }

    private static void words(String code) {
        Matcher words = Pattern.compile("[A-Za-z_][A-Za-z_0-9]*").matcher(code);
        while (words.find()) {
            checks.holds("no word " + words.group(), !WORDS_THAT_ARE_OUT.contains(words.group()));
        }
    }

    private static void signs(String text, String code) {
        for (String sign : SIGNS_THAT_ARE_OUT) {
            checks.holds("no " + sign, !code.contains(sign));
        }
        checks.holds("signs 1 to 127 alone", text.chars().allMatch(sign -> sign > 0 && sign < 128));
        checks.holds("no division, so none by 0", !Pattern.compile("[/%]").matcher(code.replace("'/'", "")).find());
    }

    private static void library(String code) {
        Set<String> inside = Set.of("State", "History", "Pad", "Chooser", "Hearing", "Sentences");
        Matcher names = Pattern.compile("\\b[A-Z][a-z]\\w*").matcher(code);
        while (names.find()) {
            checks.holds(names.group() + " is of the program or the library that is left",
                inside.contains(names.group()) || LIBRARY.contains(names.group()));
        }
        Matcher calls = Pattern.compile("\\b(?:System|Math)\\.\\w+").matcher(code);
        Set<String> allowed = Set.of("System.arraycopy", "Math.min", "Math.max", "Math.abs");
        while (calls.find()) {
            checks.holds(calls.group() + " is of the library that is left", allowed.contains(calls.group()));
        }
        checks.holds("static fields are final", !Pattern.compile("static (?!final)\\w+(\\[\\])? \\w+( =|;)").matcher(code).find());
    }

    private static void lengthsOfMethods(String code) {
        int begin = 0;
        int line = 0;
        for (String row : code.split("\n", -1)) {
            line++;
            if (row.matches(" {4,8}\\S.*\\) \\{") && !row.matches(" {8}(if|for|while|switch).*")) {
                begin = line;
            }
            if (row.matches(" {4,8}\\}") && begin > 0) {
                checks.holds("the method at line " + begin + " is short", line - begin < 60);
            }
        }
    }
}
