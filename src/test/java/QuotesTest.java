import java.io.IOException;
import java.nio.file.Files;
import java.nio.file.Path;
import java.util.ArrayList;
import java.util.HashSet;
import java.util.List;
import java.util.Set;
import java.util.regex.Matcher;
import java.util.regex.Pattern;
import java.util.stream.Stream;

/**
 * The tests of the boundary cases (Edge..Test) name in their remarks the part of the document and the sentence: each
 * test has such a remark and is run, each sentence stands in that part, and each part with promises is named.
 */
public final class QuotesTest {
    private static final Path DOCUMENT = Path.of("../shared/DOC.md");
    private static final Path TESTS = Path.of("src/test/java");
    private static final Pattern TEST = Pattern.compile("private static void (\\w+)\\(\\) \\{");
    private static final Pattern REMARK = Pattern.compile("([A-Z][^:\"]*): \"(.*)\"[^\"]*");
    /** The parts of the document: a name, the words with which it begins, and those with which the next one does. */
    private static final String[][] PARTS = {{"What it is", "## What it is", "## The public face"},
        {"Conventions", "CONVENTIONS.", "### Settings"}, {"Settings", "### Settings", "Visits, vans"},
        {"Visits, vans", "Visits, vans", "### Plan"}, {"Plan", "### Plan", "### Texts"},
        {"Texts", "### Texts", "## Promise 1:"}, {"Terms", "## Terms", "## Promise 1:"}};
    private static final int PROMISES = 24;

    public static void main(String[] args) throws IOException {
        boolean told = Files.exists(DOCUMENT);
        String document = told ? plain(Files.readString(DOCUMENT)) : "";
        Set<String> named = new HashSet<>();
        for (Path file : edgeTests()) {
            check(file, told, document, named);
        }
        for (String[] part : PARTS) {
            Due.due(part[0] + " is named by a test", named.contains(part[0]));
        }
        for (int promise = 1; promise <= PROMISES; promise++) {
            Due.due("Promise " + promise + " is named by a test", named.contains("Promise " + promise));
        }
        Due.finish();
    }

    private static List<Path> edgeTests() throws IOException {
        List<Path> files = new ArrayList<>();
        try (Stream<Path> all = Files.list(TESTS)) {
            all.filter(file -> file.getFileName().toString().matches("Edge\\w+Test\\.java")).forEach(files::add);
        }
        Due.due("there are tests of the boundary cases", !files.isEmpty());
        return files;
    }

    private static void check(Path file, boolean told, String document, Set<String> named) throws IOException {
        String text = Files.readString(file);
        String main = text.substring(text.indexOf("void main("), text.indexOf("Due.finish();"));
        Matcher test = TEST.matcher(text);
        while (test.find()) {
            String name = file.getFileName() + " " + test.group(1);
            Due.due(name + " is run", main.contains(" " + test.group(1) + "();"));
            Matcher remark = REMARK.matcher(remarkAhead(text.substring(0, test.start())));
            boolean fits = remark.matches();
            Due.due(name + " has a remark with a sentence", fits);
            if (fits) {
                named.add(remark.group(1));
                boolean stands = part(document, remark.group(1)).contains(remark.group(2));
                Due.due(name + ": in " + remark.group(1) + " stands: " + remark.group(2), stands || !told);
            }
        }
    }

    /** The remark that ends a text, without its signs and line ends; nothing if there is none. */
    private static String remarkAhead(String text) {
        String ahead = text.strip();
        int begin = ahead.lastIndexOf("/**");
        if (begin < 0 || !ahead.endsWith("*/") || ahead.indexOf("*/", begin) != ahead.length() - 2) {
            return "";
        }
        return plain(ahead.substring(begin + 3, ahead.length() - 2).replaceAll("\n\\s*\\*", " "));
    }

    private static String part(String document, String name) {
        for (String[] part : PARTS) {
            if (part[0].equals(name)) {
                return between(document, part[1], part[2]);
            }
        }
        return between(document, "## " + name + ":", "## ");
    }

    /** A text from the first words to the next ones; nothing if the first ones are not there. */
    private static String between(String text, String first, String next) {
        int begin = text.indexOf(first);
        if (begin < 0) {
            return "";
        }
        int end = text.indexOf(next, begin + first.length());
        return end < 0 ? text.substring(begin) : text.substring(begin, end);
    }

    private static String plain(String text) {
        return text.replaceAll("\\s+", " ").strip();
    }
}
