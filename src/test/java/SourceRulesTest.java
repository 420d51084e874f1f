import java.io.IOException;
import java.nio.file.Files;
import java.nio.file.Path;
import java.util.regex.Matcher;
import java.util.regex.Pattern;

/** Some rules of LANGUAGE.md that can be seen in the source's words. */
public final class SourceRulesTest {
    private static final Path SOURCE = Path.of("src/main/java/OrderLevels.java");
    private static final String[] RULED_OUT = {
        "\\b(throw|throws|try|catch|synchronized|assert|package|import)\\b",
        "->", "::", "\\binstanceof\\b", "\\bequals\\b", "\\bhashCode\\b", "\\btoString\\b",
        "\\bprotected\\b", "Exact\\b", "\\bSystem\\.(?!arraycopy\\b)", "\\bRandom\\b",
        "\\bThread\\b", "\\bdouble\\b", "\\bfloat\\b", "static \\{",
        "\"\\s*\\+|\\+\\s*\"", "private static (?!final|class)\\w+(\\[\\])? \\w+( =|;)",
    };
    private static final int MOST_LINES = 60;

    public static void main(String[] args) throws IOException {
        Checks checks = new Checks();
        String code = Files.readString(SOURCE).replaceAll("(?s)/\\*.*?\\*/", " ")
                .replaceAll("//[^\n]*", " ");
        for (String rule : RULED_OUT) {
            Matcher matcher = Pattern.compile(rule).matcher(code);
            checks.due("the source has " + rule, matcher.find() ? 1 : 0, 0);
        }
        for (String body : code.split("\n    (    )?\\}\n")) {
            checks.due("a method with too many lines: " + body.strip().lines().findFirst().orElse(""),
                    body.strip().lines().count() > MOST_LINES ? 1 : 0, 0);
        }
        publicNames(checks, code);
        checks.end("source rules");
    }

    /** No nested or private method bears the name of a public one. */
    private static void publicNames(Checks checks, String code) {
        Matcher publics = Pattern.compile("public (?:int|long) (\\w+)\\(").matcher(code);
        int many = 0;
        while (publics.find()) {
            many++;
            Matcher others = Pattern.compile("(?<!public )\\b(?:int|long|void|boolean|String) "
                    + publics.group(1) + "\\(").matcher(code);
            checks.due("another method named " + publics.group(1), others.find() ? 1 : 0, 0);
        }
        checks.due("public methods", many, 22);
    }
}
