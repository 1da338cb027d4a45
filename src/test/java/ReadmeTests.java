import java.io.File;
import java.lang.reflect.Method;
import java.nio.file.Files;
import java.nio.file.Path;
import java.util.List;
import java.util.regex.Matcher;
import java.util.regex.Pattern;

/** README.md holds: its calls, made in their order on one object, answer what stands behind them; it names every test. */
public final class ReadmeTests {
    static final Pattern CALL = Pattern.compile("town\\.(\\w+)\\((.*?)\\);\\s*// (-?\\d+|true|false)(?:\\s.*)?");

    public static void main(String[] args) throws Exception {
        List<String> lines = Files.readAllLines(Path.of("README.md"));
        Due.due("README: objects made", lines.stream().filter(l -> l.equals("LitByLosers town = new LitByLosers();")).count(), 1);
        calls(lines);
        names(String.join("\n", lines));
        Due.finish("ReadmeTests");
    }

    static void calls(List<String> lines) throws Exception {
        LitByLosers town = new LitByLosers();
        int calls = 0;
        for (String line : lines) {
            if (!line.startsWith("town.")) continue;
            Matcher m = CALL.matcher(line);
            Due.due("README: \"" + line + "\" is a call with its answer", m.matches(), true);
            if (!m.matches()) continue;
            calls++;
            Due.due("README: " + m.group(1) + "(" + m.group(2) + ")", answer(town, m.group(1), m.group(2)), number(m.group(3)));
        }
        Due.due("README: calls", calls > 40, true);
    }

    static long answer(LitByLosers town, String name, String given) throws Exception {
        for (Method m : LitByLosers.class.getDeclaredMethods()) {
            if (m.getName().equals(name)) {
                return number(String.valueOf(m.invoke(town, arguments(m.getParameterTypes(), given))));
            }
        }
        throw new IllegalStateException("README: no method " + name);
    }

    static Object[] arguments(Class<?>[] types, String given) {
        String[] parts = given.isEmpty() ? new String[0] : given.split(",\\s*");
        Object[] arguments = new Object[types.length];
        for (int i = 0; i < types.length; i++) {
            arguments[i] = types[i] == boolean.class ? (Object) Boolean.valueOf(parts[i])
                : (Object) (parts[i].equals("LitByLosers.NONE") ? LitByLosers.NONE : Integer.decode(parts[i]));
        }
        return arguments;
    }

    static long number(String answer) {
        return answer.equals("true") ? 1 : answer.equals("false") ? 0 : Long.parseLong(answer);
    }

    static void names(String text) {
        for (String file : new File("src/test/java").list()) {
            if (!file.endsWith("Tests.java")) continue;
            String name = "`" + file.replace(".java", "") + "`";
            Due.due("README names " + name, text.contains(name), true);
        }
        Matcher m = Pattern.compile("`(\\w+Tests)`").matcher(text);
        while (m.find()) {
            Due.due("README: there is " + m.group(1), new File("src/test/java/" + m.group(1) + ".java").exists(), true);
        }
        Due.due("README: the command", text.contains("\n.ci/run\n"), true);
    }
}
