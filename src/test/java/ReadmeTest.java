import java.io.IOException;
import java.lang.reflect.Method;
import java.lang.reflect.Modifier;
import java.nio.file.Files;
import java.nio.file.Path;
import java.util.HashSet;
import java.util.Set;
import java.util.TreeSet;
import java.util.regex.Matcher;
import java.util.regex.Pattern;

/** The calls that README.md shows, made one after another, with the answers that stand behind them. */
public final class ReadmeTest {
    private static final Due due = new Due();
    private static final Pattern TEXT = Pattern.compile("String text = \"([^\"]*)\";");
    private static final Pattern CALL = Pattern.compile("^x\\.(\\w+)\\((.*)\\);\\s*// (-?\\d+)(:.*)?$");

    public static void main(String[] args) throws ReflectiveOperationException, IOException {
        RoundAsk x = new RoundAsk();
        Set<String> shown = new TreeSet<>();
        String text = "";
        for (String line : Files.readAllLines(Path.of("README.md"))) {
            Matcher laid = TEXT.matcher(line);
            if (laid.find()) {
                text = laid.group(1);
            }
            Matcher call = CALL.matcher(line.replace("text.length()", "" + text.length()));
            if (call.matches()) {
                due.is(line, Long.parseLong(call.group(3)), answer(x, call.group(1), call.group(2)));
                shown.add(call.group(1));
                layText(x, call.group(1), text, shown.size() == 1);
            } else {
                due.is("not a call with its answer: " + line, 0, line.startsWith("x.") ? 1 : 0);
            }
        }
        Set<String> all = new TreeSet<>();
        for (Method m : methods()) {
            all.add(m.getName());
        }
        due.is("calls shown " + shown + " of " + all, 1, shown.equals(all) ? 1 : 0);
        due.end();
    }

    /** The loop of README.md behind its first call, that of a sheet for the text. */
    private static void layText(RoundAsk x, String name, String text, boolean first) {
        for (int i = 0; first && name.equals("sheet") && i < text.length(); i++) {
            due.is("put", 1, x.put(0, i, text.charAt(i)));
        }
    }

    private static Set<Method> methods() {
        Set<Method> all = new HashSet<>();
        for (Method m : RoundAsk.class.getDeclaredMethods()) {
            if (Modifier.isPublic(m.getModifiers())) {
                all.add(m);
            }
        }
        return all;
    }

    private static long answer(RoundAsk x, String name, String told) throws ReflectiveOperationException {
        String[] words = told.isEmpty() ? new String[0] : told.split(", ");
        for (Method m : methods()) {
            if (m.getName().equals(name) && m.getParameterCount() == words.length) {
                Object[] values = new Object[words.length];
                for (int k = 0; k < words.length; k++) {
                    boolean yesNo = m.getParameterTypes()[k] == boolean.class;
                    values[k] = yesNo ? (Object) Boolean.valueOf(words[k]) : (Object) Integer.valueOf(words[k]);
                }
                return ((Number) m.invoke(x, values)).longValue();
            }
        }
        throw new IllegalStateException("no such call: " + name);
    }
}
