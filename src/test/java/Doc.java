import java.nio.charset.StandardCharsets;
import java.nio.file.Files;
import java.nio.file.Paths;
import java.util.ArrayList;
import java.util.List;
import java.util.TreeMap;
import java.util.regex.Matcher;
import java.util.regex.Pattern;

/**
 * ../shared/DOC.md by its parts: a test quotes the words that it is of, and words of a part that
 * no test quotes are told. So no sentence is left without a test, and a failing one names its own.
 */
final class Doc {
    private static final TreeMap<String, Doc> PARTS = parts();

    private final String text;
    private final boolean[] quoted;

    private Doc(String text) {
        this.text = evened(text);
        quoted = new boolean[this.text.length()];
    }

    /** From here on the tests are of these words of a part. */
    static void says(String part, String words) {
        Due.about(part + ", \"" + words + "\"");
        Doc doc = PARTS.get(part);
        String even = evened(words);
        int at = doc == null ? -1 : doc.text.indexOf(even);
        Due.isTrue("the document's saying this there", at >= 0);
        while (at >= 0) {
            for (int i = at; i < at + even.length(); i++) {
                doc.quoted[i] = true;
            }
            at = doc.text.indexOf(even, at + 1);
        }
    }

    /** No words of a part are left that no test is of. */
    static void isQuoted(String part) {
        Due.about(part);
        Doc doc = PARTS.get(part);
        Due.isTrue("its being in the document", doc != null);
        for (String left : doc == null ? new ArrayList<String>() : doc.left()) {
            Due.isTrue("a test of \"" + left + "\"", false);
        }
    }

    private List<String> left() {
        List<String> all = new ArrayList<>();
        StringBuilder b = new StringBuilder();
        for (int i = 0; i <= text.length(); i++) {
            if (i < text.length() && !quoted[i]) {
                b.append(text.charAt(i));
            } else {
                if (b.toString().matches(".*[A-Za-z0-9].*")) {
                    all.add(b.toString());
                }
                b.setLength(0);
            }
        }
        return all;
    }

    private static String evened(String text) {
        return text.replaceAll("```(text)?", " ").replaceAll("\\s+", " ").trim();
    }

    private static TreeMap<String, Doc> parts() {
        String doc = whole();
        TreeMap<String, Doc> all = new TreeMap<>();
        all.put("What it is", new Doc(between(doc, "## What it is", "## The public face")));
        all.put("Term 1", new Doc(between(doc, "==== 1", "==== 2")));
        all.put("Term 2", new Doc(between(doc, "==== 2", "==== 3")));
        all.put("Term 3", new Doc(between(doc, "==== 3", "\nAnswers:")));
        all.put("Answers", new Doc(between(doc, "\nAnswers:", "\nMore precisely.")));
        all.put("More precisely", new Doc(between(doc, "\nMore precisely.", "\nThe constants:")));
        all.put("The constants", new Doc(between(doc, "\nThe constants:", "\n\n")));
        Matcher m = Pattern.compile("## (Promise \\d+): [^\\n]*\\s+`[^`]*`:(.*?)(?=\\n## )", Pattern.DOTALL).matcher(doc);
        while (m.find()) {
            all.put(m.group(1), new Doc(m.group(2)));
        }
        return all;
    }

    private static String between(String doc, String begin, String end) {
        int from = doc.indexOf(begin);
        int to = from < 0 ? -1 : doc.indexOf(end, from + begin.length());
        return to < 0 ? "" : doc.substring(from + begin.length(), to);
    }

    private static String whole() {
        try {
            return new String(Files.readAllBytes(Paths.get("../shared/DOC.md")), StandardCharsets.ISO_8859_1);
        } catch (java.io.IOException e) {
            return "";
        }
    }
}
