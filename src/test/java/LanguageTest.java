import java.io.IOException;
import java.nio.file.Files;
import java.nio.file.Path;
import java.util.Arrays;
import java.util.List;
import java.util.Set;
import java.util.TreeSet;
import java.util.regex.Matcher;
import java.util.regex.Pattern;
import java.lang.reflect.Field;
import java.lang.reflect.Method;
import java.lang.reflect.Modifier;

/** What can be seen of ../shared/LANGUAGE.md by words and by the face; run in the project's root. */
public final class LanguageTest {
    private static final String FACE = "after again all button count evenings fault fewest find judge keep may miss needed press"
            + " rests room see seed share step sure tells thing undo unsee weak wipe worst write";
    private static final List<String> WORDS = Arrays.asList("throw", "throws", "try", "catch", "synchronized", "assert", "package",
            "Random", "System", "Thread", "Object", "equals", "hashCode", "toString", "volatile", "protected", "var");
    private static int wrong = 0;

    private LanguageTest() { }

    public static void main(String[] args) throws IOException {
        String source = Files.readString(Path.of("src/main/java/FiveRemotes.java"));
        String code = source.replaceAll("(?s)/\\*.*?\\*/", "").replaceAll("//[^\n]*", "");
        for (String word : WORDS) {
            if (Pattern.compile("\\b" + word + "\\b").matcher(code).find()) wrong("the word " + word);
        }
        if (code.contains("->") || code.contains("::")) wrong("a lambda or a method reference");
        imports(code);
        indexes(code);
        methods(code);
        face();
        System.out.println("language: " + wrong + " wrong");
        if (wrong != 0) System.exit(1);
    }

    private static void wrong(String what) {
        wrong++;
        System.out.println("rule broken: " + what);
    }

    private static void imports(String code) {
        Matcher found = Pattern.compile("import ([^;]*);").matcher(code);
        while (found.find()) {
            if (!found.group(1).equals("java.util.Arrays")) wrong("import " + found.group(1));
        }
    }

    /** Cells are read and written by at and put alone, which look at the place first; divisors are constants but for two. */
    private static void indexes(String code) {
        Matcher found = Pattern.compile("\\w+\\[[^\\]]+\\]").matcher(code);
        while (found.find()) {
            String cell = found.group();
            if (!cell.equals("cells[place]") && !cell.startsWith("int[")) wrong("an index outside at and put: " + cell);
        }
        found = Pattern.compile("[/%]=? *(\\w+)").matcher(code);
        while (found.find()) {
            if (!found.group(1).matches("10|[A-Z_]+|common|lesser")) wrong("a divisor: " + found.group());
        }
    }

    private static void methods(String code) {
        int start = -1;
        String[] lines = code.split("\n");
        for (int i = 0; i < lines.length; i++) {
            if (lines[i].matches("( {4}| {8})[\\w\\[\\] ]+\\([^;]*\\) \\{")) start = i;
            if (lines[i].matches(" {4}\\}| {8}\\}") && start >= 0) {
                if (i - start > 40) wrong("a long method at line " + start);
                start = -1;
            }
        }
        Set<String> names = new TreeSet<>(Arrays.asList(FACE.split(" ")));
        Matcher found = Pattern.compile("(?m)^ +(private |static )*[\\w\\[\\]]+ (\\w+)\\([^;=]*\\) \\{").matcher(code);
        while (found.find()) {
            if (names.contains(found.group(2)) && !found.group().contains("public")) wrong("a name of the face: " + found.group(2));
        }
    }

    private static void face() {
        Set<String> names = new TreeSet<>();
        for (Method method : FiveRemotes.class.getDeclaredMethods()) {
            if (Modifier.isPublic(method.getModifiers())) names.add(method.getName());
            else if (!Modifier.isPrivate(method.getModifiers())) wrong("a method that is neither: " + method.getName());
        }
        if (!String.join(" ", names).equals(FACE)) wrong("the face is " + names);
        for (Field field : FiveRemotes.class.getDeclaredFields()) {
            boolean constant = field.getName().matches("UNKNOWN|OUTSIDE|STATE|FULL|NONE");
            if (constant != Modifier.isPublic(field.getModifiers())) wrong("the field " + field.getName());
            if (!constant && !Modifier.isPrivate(field.getModifiers())) wrong("the field " + field.getName());
        }
        if (FiveRemotes.class.getDeclaredClasses().length > 11) wrong("more than twelve classes");
    }
}
