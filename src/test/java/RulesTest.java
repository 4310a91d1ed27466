import java.io.IOException;
import java.nio.file.Files;
import java.nio.file.Path;
import java.util.List;
import java.util.regex.Matcher;
import java.util.regex.Pattern;

/** What of LANGUAGE.md can be seen in the words of the source. */
public final class RulesTest {
    private static final Path SOURCE = Path.of("src/main/java/MuseumGuide.java");
    private static final String[] FORBIDDEN = {"\\bimport\\b", "\\bpackage\\b", "->", "::", "\\btry\\b", "\\bcatch\\b",
        "\\bfinally\\b", "\\bsynchronized\\b", "\\bassert\\b", "\\bprotected\\b", "Exact\\(", "\\bSystem\\b(?!\\.arraycopy)",
        "\\bThread\\b", "\\bvar\\b", "\\bfloat\\b", "\\bObject\\b", "\\bnull\\b", "\\b(equals|hashCode|toString) *\\("};
    private static final String FACE = "feed|trim|teach|errorAt|count|part|close|reopen|isOpen|way|come|visitor|visit|"
        + "latest|event|heard|begins|needs|compose|byteAt|best|share|digest";
    private static final Pattern METHOD = Pattern.compile(
        "^(?:    |        )((?:public |private |static |final )*)(?:[\\w\\[\\]]+ )?(\\w+)\\((.*?)\\)?[^()]*$");

    private RulesTest() {
    }

    public static void main(String[] args) throws IOException {
        String source = Files.readString(SOURCE);
        String code = source.replaceAll("(?s)/\\*.*?\\*/", "").replaceAll("//.*", "").replaceAll("\"[^\"\n]*\"", "\"\"");
        for (String word : FORBIDDEN) {
            Matcher found = Pattern.compile(word).matcher(code);
            Check.same("found of " + word, found.find() ? found.group() : "nothing", "nothing");
        }
        Check.same("signs above 127", source.chars().anyMatch(sign -> sign > 127), false);
        Check.same("classes in the file, at most twelve", code.split("\\bclass \\w+ \\{", -1).length - 1 <= 12, true);
        methods(List.of(code.split("\n")));
        Check.finish("RulesTest");
    }

    private static void methods(List<String> lines) {
        int publics = 0;
        for (int index = 0; index < lines.size(); index++) {
            Matcher method = METHOD.matcher(lines.get(index));
            boolean begins = !lines.get(index).contains(";") && !lines.get(index).contains("=");
            if (!begins || !method.matches()) {
                continue;
            }
            publics += method.group(1).contains("public") ? 1 : 0;
            Check.same("public or not: " + method.group(2),
                method.group(1).contains("public"), method.group(2).matches("MuseumGuide|" + FACE));
            Check.same("at most 7 parameters: " + method.group(2), method.group(3).split(",").length <= 7, true);
            Check.same("at most 60 lines: " + method.group(2), linesOf(lines, index) <= 60, true);
        }
        Check.same("the constructor and the methods of the face", publics, 24);
    }

    private static int linesOf(List<String> lines, int first) {
        String end = lines.get(first).replaceAll("\\S.*", "") + "}";
        int last = first;
        while (last < lines.size() && !lines.get(last).equals(end)) {
            last++;
        }
        return last - first + 1;
    }
}
