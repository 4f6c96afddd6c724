import java.io.IOException;
import java.nio.file.Files;
import java.nio.file.Path;
import java.util.ArrayList;
import java.util.Arrays;
import java.util.IdentityHashMap;
import java.util.List;
import java.util.Map;
import java.util.Set;
import java.util.TreeSet;
import java.util.regex.Matcher;
import java.util.regex.Pattern;
import java.lang.reflect.Field;
import java.lang.reflect.Method;
import java.lang.reflect.Modifier;

/** What can be seen of ../shared/LANGUAGE.md by words and by the face; run in the project's root. */
public final class LanguageTest {
    private static final String FACE = "after again all button count evenings fault fewest find judge keep may miss needed press"
            + " rests room see seed share step sure tells thing undo unsee weak wipe worst write";
    private static final List<String> WORDS = Arrays.asList("throw", "throws", "try", "catch", "synchronized", "assert", "package",
            "Random", "System", "Thread", "Object", "equals", "hashCode", "toString", "volatile", "protected", "var");
    private static int wrong = 0;

    private LanguageTest() { }

    public static void main(String[] args) throws IOException {
        String source = Files.readString(Path.of("src/main/java/FiveRemotes.java"));
        String code = source.replaceAll("(?s)/\\*.*?\\*/", "").replaceAll("//[^\n]*", "");
        for (String word : WORDS) {
            if (Pattern.compile("\\b" + word + "\\b").matcher(code).find()) wrong("the word " + word);
        }
        if (code.contains("->") || code.contains("::")) wrong("a lambda or a method reference");
        imports(code);
        indexes(code);
        methods(code);
        madeInConstructors(code);
        face();
        classes();
        oneRoom();
        System.out.println("language: " + wrong + " wrong");
        if (wrong != 0) System.exit(1);
    }

    private static void wrong(String what) {
        wrong++;
        System.out.println("rule broken: " + what);
    }

    private static void imports(String code) {
        Matcher found = Pattern.compile("import ([^;]*);").matcher(code);
        while (found.find()) {
            if (!found.group(1).equals("java.util.Arrays")) wrong("import " + found.group(1));
        }
    }

    /** Cells are read and written by at and put alone, which look at the place first; divisors are constants but for two. */
    private static void indexes(String code) {
        Matcher found = Pattern.compile("\\w+\\[[^\\]]+\\]").matcher(code);
        while (found.find()) {
            String cell = found.group();
            if (!cell.equals("cells[place]") && !cell.startsWith("int[")) wrong("an index outside at and put: " + cell);
        }
        found = Pattern.compile("[/%]=? *(\\w+)").matcher(code);
        while (found.find()) {
            if (!found.group(1).matches("10|[A-Z_]+|common|lesser")) wrong("a divisor: " + found.group());
        }
    }

    private static void methods(String code) {
        int start = -1;
        String[] lines = code.split("\n");
        for (int i = 0; i < lines.length; i++) {
            if (lines[i].matches("( {4}| {8})[\\w\\[\\] ]+\\([^;]*\\) \\{")) start = i;
            if (lines[i].matches(" {4}\\}| {8}\\}") && start >= 0) {
                if (i - start > 40) wrong("a long method at line " + start);
                start = -1;
            }
        }
        Set<String> names = new TreeSet<>(Arrays.asList(FACE.split(" ")));
        Matcher found = Pattern.compile("(?m)^ +(private |static )*[\\w\\[\\]]+ (\\w+)\\([^;=]*\\) \\{").matcher(code);
        while (found.find()) {
            if (names.contains(found.group(2)) && !found.group().contains("public")) wrong("a name of the face: " + found.group(2));
        }
    }

    private static void face() {
        Set<String> names = new TreeSet<>();
        for (Method method : FiveRemotes.class.getDeclaredMethods()) {
            if (Modifier.isPublic(method.getModifiers())) names.add(method.getName());
            else if (!Modifier.isPrivate(method.getModifiers())) wrong("a method that is neither: " + method.getName());
        }
        if (!String.join(" ", names).equals(FACE)) wrong("the face is " + names);
        for (Field field : FiveRemotes.class.getDeclaredFields()) {
            boolean constant = field.getName().matches("UNKNOWN|OUTSIDE|STATE|FULL|NONE");
            if (constant != Modifier.isPublic(field.getModifiers())) wrong("the field " + field.getName());
            if (!constant && !Modifier.isPrivate(field.getModifiers())) wrong("the field " + field.getName());
        }
    }

    /** What a call made would be counted once for each call of a run: rows are made with the object and used again. */
    private static void madeInConstructors(String code) {
        String rest = code.replaceAll("(?s)\\n +(public FiveRemotes\\(\\)|Shelf\\(int places\\)) \\{.*?\\n +\\}", "");
        for (String line : rest.split("\n")) {
            if (line.matches(".*\\bnew\\b.*") && !line.trim().startsWith("private final")) wrong("made in a call: " + line.trim());
        }
    }

    private static void classes() {
        List<Class<?>> all = new ArrayList<>(Arrays.asList(FiveRemotes.class.getDeclaredClasses()));
        all.add(FiveRemotes.class);
        if (all.size() > 12) wrong("more than twelve classes");
        for (Class<?> one : all) {
            int fields = 0;
            for (Field field : one.getDeclaredFields()) {
                boolean fixed = Modifier.isStatic(field.getModifiers());
                if (!fixed) fields++;
                if (fixed && !Modifier.isFinal(field.getModifiers())) wrong("a static field that is not final: " + field);
            }
            if (fields > 20) wrong("more than twenty fields in " + one);
            for (Method method : one.getDeclaredMethods()) {
                if (method.getParameterCount() > 7) wrong("more than seven parameters: " + method);
            }
            if (one != FiveRemotes.class && !Modifier.isStatic(one.getModifiers())) wrong("a class that is not static: " + one);
        }
    }

    /** One object with all that it holds, in objects and arrays and in fields and elements: a hundredth of the room at most. */
    private static void oneRoom() {
        Map<Object, Integer> held = new IdentityHashMap<>();
        weigh(new FiveRemotes(), held);
        int elements = held.values().stream().mapToInt(Integer::intValue).sum();
        System.out.println("one object holds " + held.size() + " objects and arrays, " + elements + " fields and elements");
        if (held.size() > 6000 || elements > 73000) wrong("an object takes too much of the room");
    }

    private static void weigh(Object object, Map<Object, Integer> held) {
        if (object == null || held.containsKey(object)) return;
        if (object instanceof int[]) {
            held.put(object, ((int[]) object).length);
            return;
        }
        held.put(object, 0);
        for (Field field : object.getClass().getDeclaredFields()) {
            if (Modifier.isStatic(field.getModifiers())) continue;
            held.merge(object, 1, Integer::sum);
            if (!field.getType().isPrimitive()) weigh(valueOf(field, object), held);
        }
    }

    private static Object valueOf(Field field, Object object) {
        field.setAccessible(true);
        try {
            return field.get(object);
        } catch (IllegalAccessException refused) {
            wrong("a field that can't be read: " + field);
            return null;
        }
    }
}
