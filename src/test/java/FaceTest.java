import java.io.IOException;
import java.lang.reflect.Constructor;
import java.lang.reflect.Field;
import java.lang.reflect.Method;
import java.lang.reflect.Modifier;
import java.nio.file.Files;
import java.nio.file.Path;
import java.util.Arrays;
import java.util.Set;
import java.util.TreeSet;
import java.util.regex.Matcher;
import java.util.regex.Pattern;

/** The public face as the document has it, and what can be seen of LANGUAGE.md from outside. */
public final class FaceTest {
    private static final Path SOURCE = Path.of("src/main/java/SchoolPlay.java");
    private static final String[] FACE = {
        "int type(long,int)", "int clear()", "int read()", "int put(int,int)", "int fit(int,int)", "int clash(int,int)",
        "int best(int)", "int fewest()", "int cast(int,int)", "int takeBest()", "int rehearse(int,int)", "int night()",
        "int known(int)", "int sat(int)", "int slips(int)", "int cut()", "int plan(int,int,int)", "int behind(int,int)",
        "int odds()", "int next()", "int hot(int,int)", "int lots(int,int)", "int gains(int)",
        "int tried(int,int,int,int,int)", "int year(int)", "int forget()", "int leans(int)", "int sign(int)",
        "int limb(int,int)", "int image(int)", "int from(int)", "int status(int)", "int count(int)", "long digest()"};
    private static final String[] BARRED = {
        "throw", "throws", "try", "catch", "finally", "synchronized", "assert", "import", "package", "instanceof",
        "Object", "System", "Thread", "volatile", "transient", "native", "strictfp"};

    private static final Due DUE = new Due();

    private FaceTest() {
    }

    private static void publicMethods() {
        Set<String> want = new TreeSet<>(Arrays.asList(FACE));
        Set<String> got = new TreeSet<>();
        Set<String> publicNames = new TreeSet<>();
        for (Method m : SchoolPlay.class.getDeclaredMethods()) {
            if (Modifier.isPublic(m.getModifiers())) {
                String types = Arrays.toString(m.getParameterTypes()).replaceAll("[\\[\\] ]", "");
                got.add(m.getReturnType() + " " + m.getName() + "(" + types + ")");
                publicNames.add(m.getName());
            }
        }
        DUE.holds("the public methods are " + got, got.equals(want));
        for (Class<?> c : classes()) {
            for (Method m : c.getDeclaredMethods()) {
                boolean face = c == SchoolPlay.class && Modifier.isPublic(m.getModifiers());
                DUE.holds(m + " has a name of its own", face || !publicNames.contains(m.getName()));
                DUE.holds(m + " is private or public", c != SchoolPlay.class || face || Modifier.isPrivate(m.getModifiers()));
                DUE.holds(m + " has seven parameters at most", m.getParameterCount() <= 7);
            }
        }
    }

    private static void fields() {
        Set<String> constants = new TreeSet<>(Set.of("NONE", "BAD", "NO", "FULL"));
        for (Field f : SchoolPlay.class.getDeclaredFields()) {
            if (!Modifier.isPrivate(f.getModifiers())) {
                DUE.holds(f + " is of the face", constants.remove(f.getName()) && Modifier.isPublic(f.getModifiers()));
            }
        }
        DUE.holds("constants are missing: " + constants, constants.isEmpty());
        DUE.is("NONE", SchoolPlay.NONE, -1);
        DUE.is("BAD", SchoolPlay.BAD, -2);
        DUE.is("NO", SchoolPlay.NO, -3);
        DUE.is("FULL", SchoolPlay.FULL, -4);
        for (Class<?> c : classes()) {
            int own = 0;
            for (Field f : c.getDeclaredFields()) {
                boolean fixed = Modifier.isStatic(f.getModifiers());
                DUE.holds(f + " is final, if static", !fixed || Modifier.isFinal(f.getModifiers()));
                own += fixed ? 0 : 1;
            }
            DUE.holds(c + " has twenty fields at most", own <= 20);
        }
    }

    private static void theClasses() {
        DUE.holds("the class is public and final", Modifier.isPublic(SchoolPlay.class.getModifiers())
                && Modifier.isFinal(SchoolPlay.class.getModifiers()));
        Constructor<?>[] makers = SchoolPlay.class.getDeclaredConstructors();
        DUE.holds("one constructor without parameters", makers.length == 1 && makers[0].getParameterCount() == 0
                && Modifier.isPublic(makers[0].getModifiers()));
        DUE.holds("twelve classes at most", classes().length <= 12);
        for (Class<?> c : SchoolPlay.class.getDeclaredClasses()) {
            DUE.holds(c + " is static, not public", Modifier.isStatic(c.getModifiers())
                    && !Modifier.isPublic(c.getModifiers()) && !Modifier.isProtected(c.getModifiers()));
        }
    }

    private static Class<?>[] classes() {
        Class<?>[] inside = SchoolPlay.class.getDeclaredClasses();
        Class<?>[] all = Arrays.copyOf(inside, inside.length + 1);
        all[inside.length] = SchoolPlay.class;
        return all;
    }

    private static void words() throws IOException {
        String text = Files.readString(SOURCE);
        DUE.holds("only signs 1 to 127", text.chars().allMatch(c -> c >= 1 && c <= 127));
        String code = text.replaceAll("(?s)/\\*.*?\\*/", "").replaceAll("//[^\n]*", "");
        for (String word : BARRED) {
            DUE.holds("no " + word, !Pattern.compile("\\b" + word + "\\b").matcher(code).find());
        }
        DUE.holds("no lambda, no method reference", !code.contains("->") && !code.contains("::"));
        Matcher library = Pattern.compile("\\b(Math|Integer|Long|Arrays)\\.(\\w+)").matcher(code);
        while (library.find()) {
            DUE.holds(library.group() + " is a function that may be used",
                    Set.of("abs", "max", "min", "bitCount").contains(library.group(2)));
        }
    }

    /** By the braces: a method begins at a line that ends with ") {" in a class, four or eight blanks in. */
    private static void lengths() throws IOException {
        String name = "";
        int begun = -1;
        String indent = "";
        int at = 0;
        for (String line : Files.readAllLines(SOURCE)) {
            at++;
            DUE.holds("line " + at + " is not too long", line.length() <= 130);
            if (begun < 0 && line.matches("( {4}| {8})[a-z].*\\) \\{")) {
                begun = at;
                name = line.trim();
                indent = line.replaceAll("\\S.*", "");
            } else if (begun >= 0 && line.equals(indent + "}")) {
                DUE.holds(name + " has sixty lines at most", at - begun + 1 <= 60);
                begun = -1;
            }
        }
    }

    public static void main(String[] args) throws IOException {
        publicMethods();
        fields();
        theClasses();
        words();
        lengths();
        DUE.end();
    }
}
