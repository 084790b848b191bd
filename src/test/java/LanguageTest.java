import java.io.IOException;
import java.nio.charset.StandardCharsets;
import java.nio.file.Files;
import java.nio.file.Path;
import java.util.List;
import java.util.Set;
import java.util.TreeSet;
import java.util.regex.Matcher;
import java.util.regex.Pattern;

/** The rules of LANGUAGE.md that the text of the class can be held to, without comments and written texts. */
public final class LanguageTest {
    private static final Path CLASS = Path.of("src/main/java/Bgpreplay.java");

    private static final Set<String> EXCEPTIONS = Set.of("IllegalStateException", "IllegalArgumentException",
        "IndexOutOfBoundsException", "NoSuchElementException");

    private static final Set<String> WORDS_LEFT_OUT = Set.of("package", "protected", "try", "catch", "finally",
        "synchronized", "assert", "volatile", "transient", "native", "strictfp", "instanceof", "record", "sealed",
        "var");

    private static final Set<String> OWN_CLASSES = Set.of("Bgpreplay", "Path", "Prefix", "Route", "Tree", "History",
        "Entry", "Registry", "Relations");

    private static final Pattern METHOD =
        Pattern.compile("( +)(?:public |private |static )*[\\w\\[\\]]+ (\\w+)\\((.*)");

    private LanguageTest() {
    }

    public static void main(String[] args) throws IOException {
        String text = Files.readString(CLASS, StandardCharsets.UTF_8);
        Check.that("signs 1 to 127", text.chars().allMatch(sign -> sign >= 1 && sign <= 127));
        String code = codeOf(text);
        imports(code);
        words(code);
        library(code);
        throwing(code);
        methods(code);
        Check.end();
    }

    private static String codeOf(String text) {
        String withoutTexts = text.replaceAll("\"[^\"\n]*\"", "\"\"");
        return withoutTexts.replaceAll("(?s)/\\*.*?\\*/", "").replaceAll("//[^\n]*", "");
    }

    private static Set<String> all(String code, String pattern) {
        Set<String> found = new TreeSet<>();
        Matcher m = Pattern.compile(pattern).matcher(code);
        while (m.find()) {
            found.add(m.group(m.groupCount()));
        }
        return found;
    }

    private static void imports(String code) {
        Check.same("imports", "[java.util.NoSuchElementException]", all(code, "import\\s+([^;]+);").toString());
    }

    private static void words(String code) {
        Set<String> words = all(code, "\\b([a-z]+)\\b");
        for (String word : new TreeSet<>(WORDS_LEFT_OUT)) {
            Check.that("rules 1, 6: without the word " + word, !words.contains(word));
        }
        Check.that("rule 2: no lambda, no switch with arrows", !code.contains("->"));
        Check.that("rule 2: no method reference", !code.contains("::"));
        Check.that("rule 5: no static initialiser", all(code, "\\bstatic\\s*(\\{)").isEmpty());
        Check.that("rule 5: static fields are final",
            all(code, "(?m)^\\s*(?:public |private )?static (?!final )([^(\n]*);").isEmpty());
        Check.that("rule 4: texts are not joined by +", !Pattern.compile("\"\\s*\\+|\\+\\s*\"").matcher(code).find());
    }

    /** Names that begin with a capital, but for those of constants, are those of classes. */
    private static void library(String code) {
        Set<String> classes = all(code, "\\b([A-Z][A-Za-z]*[a-z][A-Za-z]*)\\b");
        classes.removeAll(EXCEPTIONS);
        classes.removeAll(OWN_CLASSES);
        Check.same("rule 4: classes of the library", "[Integer]", classes.toString());
        Check.same("rule 4: functions of Integer", "[bitCount]", all(code, "\\bInteger\\.([A-Za-z]+)").toString());
    }

    private static void throwing(String code) {
        String rest = code;
        for (String exception : EXCEPTIONS) {
            rest = rest.replace("throw new " + exception + "(\"\");", "");
        }
        Check.that("rule 6: throw new E(\"a written text\") alone", all(rest, "\\b(throw)\\b").isEmpty());
    }

    /** A method begins in a line that ends its parameters and opens a brace, and ends at a brace as far indented. */
    private static void methods(String code) {
        List<String> lines = code.lines().toList();
        int found = 0;
        for (int i = 0; i < lines.size(); i++) {
            Matcher m = METHOD.matcher(lines.get(i));
            if (m.matches() && !lines.get(i).endsWith(";")) {
                found++;
                String what = "rule 11: at most 60 lines and seven parameters has " + m.group(2);
                int length = lines.subList(i, lines.size()).indexOf(m.group(1) + "}");
                Check.that(what, length >= 0 && length < 60 && m.group(3).split(",").length <= 7);
            }
        }
        Check.that("the methods are found", found > 70);
    }
}
