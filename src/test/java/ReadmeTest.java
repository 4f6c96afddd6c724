import java.io.IOException;
import java.lang.reflect.Method;
import java.lang.reflect.Modifier;
import java.nio.file.Files;
import java.nio.file.Path;
import java.util.Set;
import java.util.TreeSet;
import java.util.regex.Matcher;
import java.util.regex.Pattern;

/** The calls that README.md shows, each held against the answer that stands behind it; run in the project's root. */
public final class ReadmeTest extends Checks {
    private static final String MADE = "FiveRemotes x = new FiveRemotes();";
    private static final Pattern TOLD = Pattern.compile("tell\\(x, \"(\\w+)\"\\);");
    private static final Pattern CALL = Pattern.compile("x\\.(\\w+)\\(([^)]*)\\);\\s+// (-?\\d+)(:.*)?");

    private final Set<String> asked = new TreeSet<>();
    private FiveRemotes x = null;

    private ReadmeTest() { }

    public static void main(String[] args) throws IOException, ReflectiveOperationException {
        ReadmeTest readme = new ReadmeTest();
        boolean inBlock = false;
        for (String line : Files.readAllLines(Path.of("README.md"))) {
            if (line.startsWith("### ")) sentence(line.substring(4));
            if (line.equals("```")) inBlock = false;
            if (inBlock) readme.follow(line);
            if (line.equals("```java")) {
                inBlock = true;
                readme.x = null;
            }
        }
        readme.eachCallIsShown();
        end("calls that the README shows");
    }

    private void follow(String line) throws ReflectiveOperationException {
        Matcher told = TOLD.matcher(line);
        Matcher call = CALL.matcher(line);
        if (line.equals(MADE)) x = new FiveRemotes();
        else if (x == null) wrong("no object for " + line);
        else if (told.matches()) tell(x, told.group(1));
        else if (call.matches()) ask(call);
        else wrong("a line that is no call with its answer: " + line);
    }

    private void ask(Matcher call) throws ReflectiveOperationException {
        asked.add(call.group(1));
        String[] told = call.group(2).isEmpty() ? new String[0] : call.group(2).split(", ");
        Method method = methodOf(call.group(1), told.length);
        if (method == null) {
            wrong("no such call: " + call.group());
            return;
        }
        Object[] arguments = new Object[told.length];
        for (int i = 0; i < told.length; i++) arguments[i] = argumentOf(told[i], method.getParameterTypes()[i]);
        long got = ((Number) method.invoke(x, arguments)).longValue();
        same(call.group(1) + "(" + call.group(2) + ")", got, Long.parseLong(call.group(3)));
    }

    private static Method methodOf(String name, int arguments) {
        for (Method method : FiveRemotes.class.getMethods()) {
            if (method.getName().equals(name) && method.getParameterCount() == arguments) return method;
        }
        return null;
    }

    private static Object argumentOf(String told, Class<?> type) {
        if (type == boolean.class) return Boolean.parseBoolean(told);
        if (type == long.class) return Long.parseLong(told);
        if (told.startsWith("'")) return (int) told.charAt(1);
        return Integer.parseInt(told);
    }

    private void eachCallIsShown() {
        sentence("calls of each kind");
        for (Method method : FiveRemotes.class.getDeclaredMethods()) {
            boolean shown = asked.contains(method.getName());
            boolean called = Modifier.isPublic(method.getModifiers());
            if (called) same(method.getName() + " is shown", shown ? 1 : 0, 1);
        }
    }
}
