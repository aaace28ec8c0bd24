import java.io.IOException;
import java.nio.file.DirectoryStream;
import java.nio.file.Files;
import java.nio.file.Path;
import java.util.regex.Matcher;
import java.util.regex.Pattern;

/** That every sentence of the document's terms and promises is quoted by a test, word for word. */
public final class SentencesTest {
    private static final Due DUE = new Due("SentencesTest");
    private static final Pattern QUOTED = Pattern.compile("\\.says\\(\"([^\"]*)\"\\)");
    // What stands between the sentences; FaceTest reads the face and what the interface says for itself.
    private static final Pattern NO_SENTENCE = Pattern.compile("======== \\d|## Promise \\d+: (A new object|\\w+)|## Terms|```text"
        + "|## The public face ```java.*? ```|Ahead of the calls [^:]*: ---- [a-z, ]*\\.");
    private static final Pattern WORD = Pattern.compile("[A-Za-z0-9]+");

    public static void main(String[] args) throws IOException {
        String document = Due.document();
        StringBuilder left = new StringBuilder(document);
        try (DirectoryStream<Path> tests = Files.newDirectoryStream(Path.of("src/test/java"), "*Test.java")) {
            for (Path test : tests) {
                Matcher quoted = QUOTED.matcher(Files.readString(test));
                while (quoted.find()) {
                    strike(document, left, quoted.group(1));
                }
            }
        }
        String sentences = left.substring(document.indexOf("======== 1"), document.indexOf("## Not promised"));
        Matcher word = WORD.matcher(NO_SENTENCE.matcher(sentences).replaceAll(" "));
        while (word.find()) {
            DUE.isTrue("no test quotes the sentence of \"" + word.group() + "\"", false);
        }
        DUE.isTrue("there is a document", sentences.length() > 5000);
        DUE.end();
    }

    private static void strike(String document, StringBuilder left, String quoted) {
        DUE.isTrue("\"" + quoted + "\" stands in the document", document.contains(quoted));
        for (int at = document.indexOf(quoted); at >= 0; at = document.indexOf(quoted, at + 1)) {
            left.replace(at, at + quoted.length(), " ".repeat(quoted.length()));
        }
    }
}
