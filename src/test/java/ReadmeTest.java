import java.io.IOException;
import java.lang.reflect.Method;
import java.lang.reflect.Modifier;
import java.nio.file.Files;
import java.nio.file.Path;
import java.util.regex.Matcher;
import java.util.regex.Pattern;

/** What README.md shows of the class is so: each call's answer stands behind it, and every call of the face is named. */
public final class ReadmeTest {
    private static final Pattern CALL = Pattern.compile("play\\.(\\w+)\\(([^)]*)\\);\\s*// (-?\\d+): (.*)");
    private static final Due DUE = new Due();

    private ReadmeTest() {
    }

    private static Object argument(String text, Class<?> type) {
        long v = Long.decode(text.trim().replace("L", ""));
        return type == long.class ? (Object) v : (Object) (int) v;
    }

    private static long answer(SchoolPlay play, String name, String list) throws ReflectiveOperationException {
        String[] texts = list.isEmpty() ? new String[0] : list.split(",");
        for (Method m : SchoolPlay.class.getMethods()) {
            if (m.getName().equals(name) && m.getParameterCount() == texts.length) {
                Object[] arguments = new Object[texts.length];
                for (int i = 0; i < texts.length; i++) {
                    arguments[i] = argument(texts[i], m.getParameterTypes()[i]);
                }
                return ((Number) m.invoke(play, arguments)).longValue();
            }
        }
        throw new NoSuchMethodException(name);
    }

    private static void typedText(String line, String list, String shown) {
        long v = (Long) argument(list.split(",")[0], long.class);
        int end = shown.lastIndexOf('"');
        DUE.holds(line + " shows its text", end > 0 && Texts.packed(shown.substring(1, end)) == v);
    }

    private static void example(String text) throws ReflectiveOperationException {
        int begin = text.indexOf("```java\n");
        int end = text.indexOf("```", begin + 3);
        DUE.holds("there is an example", begin >= 0 && end > begin);
        SchoolPlay play = new SchoolPlay();
        int calls = 0;
        for (String line : text.substring(begin, end).split("\n")) {
            Matcher call = CALL.matcher(line);
            DUE.holds(line + " has its answer behind it", call.matches() || !line.startsWith("play."));
            if (call.matches()) {
                calls++;
                DUE.is(line, answer(play, call.group(1), call.group(2)), Long.parseLong(call.group(3)));
                if (call.group(1).equals("type")) {
                    typedText(line, call.group(2), call.group(4));
                }
            }
        }
        DUE.holds("the example has calls", calls > 0);
    }

    private static void names(String text) {
        for (Method m : SchoolPlay.class.getDeclaredMethods()) {
            if (Modifier.isPublic(m.getModifiers())) {
                DUE.holds("README.md names " + m.getName(), text.contains("`" + m.getName() + "`"));
            }
        }
        DUE.holds("README.md says how to run the tests", text.contains("`.ci/run`"));
    }

    public static void main(String[] args) throws IOException, ReflectiveOperationException {
        String text = Files.readString(Path.of("README.md"));
        example(text);
        names(text);
        DUE.end();
    }
}
