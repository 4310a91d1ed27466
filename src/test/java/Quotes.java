import java.io.IOException;
import java.nio.file.Files;
import java.nio.file.Path;
import java.util.List;
import java.util.regex.Matcher;
import java.util.regex.Pattern;
import java.util.stream.Stream;

/**
 * Compares the sentences that the tests of edges quote with the document, to find one that lacks a test.
 * It is no test: it is run by hand, "java src/test/java/Quotes.java".
 */
public final class Quotes {
    private static final Pattern QUOTE = Pattern.compile("Check\\.sentence\\(((?:\\s*\"[^\"]*\"\\s*\\+?)+)\\)");

    private Quotes() {
    }

    public static void main(String[] args) throws IOException {
        String document = Files.readString(Path.of("../shared/DOC.md")).replaceAll("\\s+", " ");
        String left = document;
        try (Stream<Path> files = Files.list(Path.of("src/test/java"))) {
            for (Path file : files.sorted().toList()) {
                for (String quote : quotes(Files.readString(file))) {
                    if (!document.contains(quote)) {
                        System.out.println("not in the document, " + file.getFileName() + ": " + quote);
                    }
                    // Quotes may stand in others: what is left of the document is marked, not cut.
                    left = marked(left, document, quote);
                }
            }
        }
        System.out.println("---- of the document no test of edges quotes:");
        System.out.println(left.replaceAll("\0+", "\n"));
    }

    private static List<String> quotes(String source) {
        return QUOTE.matcher(source).results()
            .map(found -> found.group(1).replaceAll("\"\\s*\\+\\s*\"", "").trim())
            .map(words -> words.substring(1, words.length() - 1))
            .toList();
    }

    private static String marked(String left, String document, String quote) {
        StringBuilder marked = new StringBuilder(left);
        Matcher place = Pattern.compile(Pattern.quote(quote)).matcher(document);
        while (place.find()) {
            for (int index = place.start(); index < place.end(); index++) {
                marked.setCharAt(index, '\0');
            }
        }
        return marked.toString();
    }
}
