import java.lang.reflect.Constructor;
import java.lang.reflect.Field;
import java.lang.reflect.Method;
import java.lang.reflect.Modifier;
import java.nio.file.Files;
import java.nio.file.Path;
import java.util.List;
import java.util.Set;
import java.util.TreeSet;
import java.util.regex.Matcher;
import java.util.regex.Pattern;

/** The face as the document has it, and those rules of LANGUAGE.md that can be seen from outside. */
public final class FormTest {
    private static final String FACE = "public boolean pain(int, int); public boolean hang(int, int, boolean); "
            + "public int person(int, int); public int feed(int, int, int, int, int); public int end(int); public int text(); "
            + "public int fault(int); public boolean by(int); public int ask(int); public boolean give(int, int); "
            + "public boolean again(int, int); public int day(int); public int played(int); public int years(int, int); "
            + "public int undo(); public int of(int, int); public int ofWant(int, int); public int tells(int, int); "
            + "public int is(int); public int book(int, int); public int foretold(int, int, int); public int bottom(int); "
            + "public long ways(int, int); public int must(int, int); public int between(int, int); public int heaviest(int, int); "
            + "public int under(int, int); public int needless(int); public int shared(int, int); public int apart(boolean); "
            + "public int chains(); public int levels(); public int asked(int, boolean); public int cheap(int, int, boolean); "
            + "public boolean offers(int, int, boolean); public int rings(boolean); public int ring(int); "
            + "public boolean grant(int, int, int); public long budget(int, boolean); public int enough(int); "
            + "public int said(int, int); public int whose(); public int saddest(); public int plain(); public int loose(); "
            + "public int above(int); public int ledger(boolean); public int image(); public int back(); public int about(int)";

    private static final Check CHECK = new Check("FormTest");

    public static void main(String[] args) throws Exception {
        Set<String> names = face();
        for (Class<?> inside : WantOfAWant.class.getDeclaredClasses()) {
            CHECK.due("static: " + inside, Modifier.isStatic(inside.getModifiers()), true);
            inside(inside, names);
        }
        inside(WantOfAWant.class, names);
        CHECK.due("twelve classes at most", WantOfAWant.class.getDeclaredClasses().length < 12, true);
        source();
        CHECK.finish();
    }

    private static Set<String> face() throws Exception {
        Class<?> c = WantOfAWant.class;
        CHECK.due("public", Modifier.isPublic(c.getModifiers()), true);
        CHECK.due("final", Modifier.isFinal(c.getModifiers()), true);
        CHECK.due("one constructor", c.getDeclaredConstructors().length, 1);
        for (Constructor<?> made : c.getDeclaredConstructors()) {
            CHECK.due("constructor", made.toString().equals("public WantOfAWant()"), true);
        }
        Set<String> due = new TreeSet<>(List.of(FACE.split("; ")));
        Set<String> names = new TreeSet<>();
        for (Method m : c.getDeclaredMethods()) {
            if (!Modifier.isPrivate(m.getModifiers())) {
                String form = m.toString().replace("WantOfAWant.", "").replace(",", ", ");
                CHECK.due("of the face: " + form, due.remove(form), true);
                names.add(m.getName());
            }
        }
        due.forEach(missing -> CHECK.due("missing: " + missing, 0, 1));
        for (Field f : c.getDeclaredFields()) {
            boolean isNone = f.getName().equals("NONE");
            CHECK.due("field " + f, Modifier.isPrivate(f.getModifiers()), !isNone);
        }
        CHECK.due("NONE", WantOfAWant.class.getField("NONE").getInt(null), -1);
        return names;
    }

    private static void inside(Class<?> c, Set<String> face) {
        int fields = 0;
        for (Field f : c.getDeclaredFields()) {
            boolean isStatic = Modifier.isStatic(f.getModifiers());
            fields += isStatic ? 0 : 1;
            CHECK.due("static and not final: " + f, isStatic && !Modifier.isFinal(f.getModifiers()), false);
        }
        CHECK.due("twenty fields at most: " + c, fields <= 20, true);
        for (Method m : c.getDeclaredMethods()) {
            CHECK.due("seven parameters at most: " + m, m.getParameterCount() <= 7, true);
            boolean own = c == WantOfAWant.class && Modifier.isPublic(m.getModifiers());
            CHECK.due("named as one of the face: " + m, !own && face.contains(m.getName()), false);
        }
    }

    private static void source() throws Exception {
        String text = Files.readString(Path.of("src/main/java/WantOfAWant.java"));
        String code = text.replaceAll("(?s)/\\*.*?\\*/", "").replaceAll("//.*", "");
        for (String word : List.of("throw", "throws", "try", "catch", "finally", "synchronized", "assert", "import", "package",
                "float", "double", "volatile", "transient", "native", "strictfp", "var", "protected")) {
            CHECK.due("the word " + word, Pattern.compile("\\b" + word + "\\b").matcher(code).find(), false);
        }
        CHECK.due("no lambda", code.contains("->"), false);
        CHECK.due("no method reference", code.contains("::"), false);
        CHECK.due("no annotation", code.contains("@"), false);
        Matcher library = Pattern.compile("\\b(Math|Integer|Long|System|Arrays|String|Character|Objects)\\.(\\w+)").matcher(code);
        Set<String> used = new TreeSet<>();
        while (library.find()) {
            used.add(library.group());
        }
        used.removeAll(Set.of("Math.max", "Math.min", "Integer.bitCount", "System.arraycopy"));
        CHECK.due("of the library: " + used, used.size(), 0);
        lengths(text);
    }

    /** From a method's first line to the brace that closes it, which stands as far in as that line. */
    private static void lengths(String text) {
        String[] lines = text.split("\n");
        Pattern head = Pattern.compile("^( {4}| {8})[a-z].*\\) \\{$");
        for (int i = 0; i < lines.length; i++) {
            CHECK.due("120 signs at most, line " + (i + 1), lines[i].length() <= 120, true);
            Matcher m = head.matcher(lines[i]);
            if (!m.matches()) {
                continue;
            }
            int end = i;
            while (end < lines.length && !lines[end].equals(m.group(1) + "}")) {
                end++;
            }
            CHECK.due("sixty lines at most: " + lines[i].trim(), end - i < 60, true);
        }
    }
}
