import java.io.IOException;
import java.nio.file.DirectoryStream;
import java.nio.file.Files;
import java.nio.file.Path;
import java.util.TreeMap;
import java.util.regex.Matcher;
import java.util.regex.Pattern;

/**
 * That each test of an edge says by its first remark which promise and which sentence it holds: the promise is that of
 * its name, and what is quoted stands in the document. And that each promise has such tests.
 */
public final class EdgeRemarksTest {
    private static final Pattern TEST = Pattern.compile("(?s)(/\\*\\*((?!\\*/).)*\\*/)?\\s*static void (p(\\d\\d)_\\w+)\\(");
    private static int wrong = 0;

    public static void main(String[] args) throws IOException {
        String document = plain(Files.readString(Path.of("../shared/DOC.md")));
        TreeMap<Integer, Integer> tests = new TreeMap<>();
        try (DirectoryStream<Path> files = Files.newDirectoryStream(Path.of("src/test/java"), "EdgesOf*Test.java")) {
            for (Path file : files) {
                Matcher m = TEST.matcher(Files.readString(file));
                while (m.find()) {
                    int promise = Integer.parseInt(m.group(4));
                    tests.merge(promise, 1, Integer::sum);
                    look(m.group(3), promise, m.group(1) == null ? "" : plain(m.group(1).substring(3)), document);
                }
            }
        }
        for (int promise = 1; promise <= 63; promise++) {
            hold(tests.containsKey(promise), "promise " + promise + " has no test of an edge");
        }
        System.out.println("EdgeRemarksTest: of " + tests.values().stream().mapToInt(n -> n).sum()
            + " remarks " + wrong + " are not as they should be");
        System.exit(wrong == 0 ? 0 : 1);
    }

    private static void look(String test, int promise, String remark, String document) {
        hold(remark.matches("Promise " + promise + "\\b.*"), test + " says another promise, or none: " + remark);
        Matcher quote = Pattern.compile("\"([^\"]+)\"").matcher(remark);
        int quotes = 0;
        while (quote.find()) {
            quotes++;
            hold(document.contains(quote.group(1)), test + ": the document doesn't say \"" + quote.group(1) + "\"");
        }
        hold(quotes > 0, test + " says no sentence");
    }

    private static String plain(String text) {
        return text.replaceAll("\\s+", " ").trim();
    }

    private static void hold(boolean holds, String what) {
        if (!holds) {
            wrong++;
            System.out.println(what);
        }
    }
}
