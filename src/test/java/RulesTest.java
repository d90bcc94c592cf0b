import java.io.IOException;
import java.nio.file.Files;
import java.nio.file.Path;
import java.util.List;
import java.util.regex.Matcher;
import java.util.regex.Pattern;

/** The rules of LANGUAGE.md that can be seen in the text of the class, without a parser. */
final class RulesTest {
    private static final Check CHECK = new Check("RulesTest");
    private static final List<String> FORBIDDEN = List.of("\\bimport\\b", "\\bpackage\\b", "->", "::",
        "\\b(try|catch|finally|synchronized|assert|instanceof|lambda|protected|native|volatile|transient)\\b",
        "static \\{", "\\b(System|Object|Thread|Random|Character|Boolean|Long|Double|Float|Arrays|List)\\b",
        "@\\w", "\\.(equals|hashCode|toString|getMessage)\\(", "new [A-Z]\\w*\\([a-z]",
        "\\bthis\\b[^.]", "new int\\[[^\\]]*[a-z]",
        "static (?!final)(int|long|boolean|char|String|Play)(\\[\\])? \\w+( =|;)");

    public static void main(String[] args) throws IOException {
        String source = Files.readString(Path.of("src/main/java/FoleyMixer.java"));
        String code = source.replaceAll("\"[^\"]*\"", "\"\"").replaceAll("//.*|(?s)/\\*.*?\\*/", "");
        for (String forbidden : FORBIDDEN) {
            Matcher matcher = Pattern.compile(forbidden).matcher(code);
            CHECK.due(forbidden, matcher.find() ? matcher.group() : "nowhere", "nowhere");
        }
        each(code, "\\bMath\\.(\\w+)", "max|min|abs");
        each(code, "\\bInteger\\.(\\w+)", "bitCount");
        each(code, "\\bnew (\\w+)", "int|Play|Cues|Mix|History|Script|CueReader|Illegal\\w+|IndexOutOfBoundsException");
        each(code, "\\bthrow (new \\w+\\(\"\"\\))",
            "new (IllegalArgument|IllegalState|IndexOutOfBounds)Exception\\(\"\"\\)");
        each(code, "(\\S) / \\S+", "\\)|e");
        each(code, "\\b(\\w+) class ", "final|static");
        lengths(code);
        CHECK.due("signs", code.chars().allMatch(sign -> sign < 127), true);
        CHECK.end();
    }

    /** Each find's first group is due to match. */
    private static void each(String code, String find, String due) {
        Matcher matcher = Pattern.compile(find).matcher(code);
        while (matcher.find()) {
            CHECK.due(matcher.group() + " as " + due, matcher.group(1).matches(due), true);
        }
    }

    private static void lengths(String code) {
        int classes = 0;
        int begun = 0;
        String[] lines = code.split("\n");
        for (int i = 0; i < lines.length; i++) {
            boolean inside = lines[i].matches("(    ){1,2}(public|private).*");
            if (inside && lines[i].contains(" class ")) {
                classes++;
            } else if (inside && !lines[i].endsWith(";")) {
                begun = i;
            }
            if (lines[i].matches("(    ){1,2}\\}")) {
                CHECK.due("at most 60 lines: " + lines[begun], i - begun < 60, true);
            }
            CHECK.due("at most seven parameters: " + lines[i], lines[i].split(",").length <= 8, true);
        }
        CHECK.due("at most twelve classes: " + classes, classes <= 11, true);
    }
}
