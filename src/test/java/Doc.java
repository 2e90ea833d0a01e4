import java.io.IOException;
import java.nio.file.Files;
import java.nio.file.Path;
import java.util.Map;
import java.util.TreeMap;
import java.util.regex.Matcher;
import java.util.regex.Pattern;

/** The document's words by section, and which of them a test has quoted: none may be left without a test. */
final class Doc {
    /** What stands under "Terms", and the one sentence of "What it is" that tells a limit. */
    static final int TERMS = 0;
    static final int LIMIT = -1;
    private static final int PROMISES = 51;

    private final Map<Integer, String> texts = new TreeMap<>();
    private final Map<Integer, boolean[]> quoted = new TreeMap<>();
    private final Check check;

    Doc(Check check) throws IOException {
        this.check = check;
        String all = Files.readString(Path.of("../shared/DOC.md"));
        Matcher head = Pattern.compile("(?ms)^## ([^\n]*)\n(.*?)(?=^## |\\z)").matcher(all);
        while (head.find()) {
            String name = head.group(1);
            String body = plain(head.group(2));
            if (name.equals("Terms")) {
                put(TERMS, body);
            } else if (name.equals("What it is")) {
                put(LIMIT, body.substring(body.indexOf("An object is used")));
            } else if (name.startsWith("Promise ")) {
                put(Integer.parseInt(name.substring(8, name.indexOf(':'))), body.replaceFirst("^`[^`]*`: ?", ""));
            }
        }
        check.due("sections of the document", texts.size(), PROMISES + 2);
    }

    private static String plain(String body) {
        return body.replaceAll("```(text)?", " ").replaceAll("==== [IV]+\\.", " ").replaceAll("\\s+", " ").trim();
    }

    private void put(int section, String body) {
        texts.put(section, body);
        quoted.put(section, new boolean[body.length()]);
    }

    /** Words that do not stand there are a fault of the test. */
    void quote(int section, String words) {
        String body = texts.getOrDefault(section, "");
        int at = body.indexOf(words);
        check.due("section " + section + " says: " + words, at >= 0, true);
        for (; at >= 0; at = body.indexOf(words, at + 1)) {
            for (int i = 0; i < words.length(); i++) {
                quoted.get(section)[at + i] = true;
            }
        }
    }

    /** Marks alone need no test; every letter and digit stands in a sentence that has one. */
    void finish() {
        texts.forEach((section, body) -> {
            StringBuilder left = new StringBuilder();
            for (int i = 0; i < body.length(); i++) {
                left.append(quoted.get(section)[i] ? '_' : body.charAt(i));
            }
            boolean none = !Pattern.compile("[A-Za-z0-9]").matcher(left).find();
            check.due("section " + section + " has a test for each sentence: "
                    + left.toString().replaceAll("_+", "_"), none, true);
        });
    }
}
