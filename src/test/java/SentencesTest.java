import java.io.IOException;
import java.nio.file.DirectoryStream;
import java.nio.file.Files;
import java.nio.file.Path;
import java.util.regex.Matcher;
import java.util.regex.Pattern;

/** That each sentence of the document that names an edge is quoted by a test: what no test quotes names none. */
public final class SentencesTest {
    private static final Due DUE = new Due("SentencesTest");
    private static final Pattern QUOTED = Pattern.compile("\\.says\\(\"([^\"]*)\"\\)");
    private static final Pattern HEADING = Pattern.compile("======== \\d|## Promise \\d+");
    private static final Pattern EDGE = Pattern.compile("\\d|UNKNOWN|BAD|LATE|FULL|NONE|at most|at least|none|nobody|several|refused");

    public static void main(String[] args) throws IOException {
        String document = Due.document();
        StringBuilder left = new StringBuilder(document);
        try (DirectoryStream<Path> tests = Files.newDirectoryStream(Path.of("src/test/java"), "*Test.java")) {
            for (Path test : tests) {
                Matcher quoted = QUOTED.matcher(Files.readString(test));
                while (quoted.find()) {
                    strike(document, left, quoted.group(1));
                }
            }
        }
        String terms = left.substring(document.indexOf("## Terms"), document.indexOf("## Not promised"));
        Matcher edge = EDGE.matcher(HEADING.matcher(terms).replaceAll(""));
        while (edge.find()) {
            DUE.isTrue("no test quotes the sentence of \"" + edge.group() + "\", at " + edge.start() + " of " + terms, false);
        }
        DUE.isTrue("there is a document", terms.length() > 5000);
        DUE.end();
    }

    private static void strike(String document, StringBuilder left, String quoted) {
        DUE.isTrue("\"" + quoted + "\" stands in the document", document.contains(quoted));
        for (int at = document.indexOf(quoted); at >= 0; at = document.indexOf(quoted, at + 1)) {
            left.replace(at, at + quoted.length(), " ".repeat(quoted.length()));
        }
    }
}
