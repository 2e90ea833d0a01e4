import java.lang.reflect.Method;
import java.lang.reflect.Modifier;
import java.nio.file.Files;
import java.nio.file.Path;
import java.util.HashMap;
import java.util.Map;
import java.util.regex.Matcher;
import java.util.regex.Pattern;

/** README.md's examples, one call a line with its answer behind it, on one object; and that each call is named there. */
public final class ReadmeTest {
    private static final Pattern BLOCK = Pattern.compile("(?s)```java\n(.*?)```");
    private static final Pattern LINE = Pattern.compile("(?:int (\\w+) = )?board\\.(\\w+)\\((.*?)\\); +// ([^:]+): .*");
    private static final Check CHECK = new Check("ReadmeTest");

    private final Map<String, Method> calls = new HashMap<>();
    private final Map<String, Object> told = new HashMap<>();
    private WantOfAWant board;

    public static void main(String[] args) throws Exception {
        ReadmeTest test = new ReadmeTest();
        String text = Files.readString(Path.of("README.md"));
        for (Method m : WantOfAWant.class.getDeclaredMethods()) {
            if (Modifier.isPublic(m.getModifiers())) {
                test.calls.put(m.getName(), m);
                CHECK.due("README names " + m.getName(), text.contains("`" + m.getName() + "`"), true);
            }
        }
        int lines = 0;
        for (Matcher block = BLOCK.matcher(text); block.find();) {
            for (String line : block.group(1).split("\n")) {
                test.follow(line);
                lines++;
            }
        }
        CHECK.due("README has examples", lines > 10, true);
        CHECK.finish();
    }

    private void follow(String line) throws Exception {
        if (line.equals("WantOfAWant board = new WantOfAWant();")) {
            board = new WantOfAWant();
            return;
        }
        Matcher m = LINE.matcher(line);
        boolean isCall = m.matches() && calls.containsKey(m.group(2));
        CHECK.due("a call with its answer: " + line, isCall, true);
        if (!isCall) {
            return;
        }
        String[] words = m.group(3).isEmpty() ? new String[0] : m.group(3).split(", ");
        Object[] values = new Object[words.length];
        for (int i = 0; i < words.length; i++) {
            values[i] = value(words[i]);
        }
        Object answer = calls.get(m.group(2)).invoke(board, values);
        CHECK.due(line.trim() + " (" + answer + ")", answer.toString().equals(m.group(4)), true);
        if (m.group(1) != null) {
            told.put(m.group(1), answer);
        }
    }

    private Object value(String word) {
        if (word.equals("true") || word.equals("false")) {
            return word.equals("true");
        }
        return told.containsKey(word) ? told.get(word) : (Object) Integer.decode(word);
    }
}
