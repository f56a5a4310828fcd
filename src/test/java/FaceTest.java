import java.io.IOException;
import java.lang.reflect.Constructor;
import java.lang.reflect.Field;
import java.lang.reflect.Method;
import java.lang.reflect.Modifier;
import java.nio.file.Files;
import java.nio.file.Path;
import java.util.Arrays;
import java.util.List;
import java.util.Set;
import java.util.TreeSet;
import java.util.regex.Matcher;
import java.util.regex.Pattern;

/** The public face, and of LANGUAGE.md what can be seen from outside or from the words of the file. */
public final class FaceTest {
    private static final Due due = new Due();
    private static final Path FILE = Path.of("src/main/java/RoundAsk.java");
    private static final String FACE = """
        int table(int,int,int,int); int ofDish(int,int); int ofGuest(int,int); int worth(int,int,boolean);
        int say(int,int,int); int swap(int,int); int step(int); int courses(int); int dine(); int forget();
        int gets(int,int); int glad(int); long pays(int,boolean,int); int judge(int,int,int,int); int best(int);
        int seats(int,int); int ever(int); long mean(int,int); int leaves(); int spite(int,int); int lies(int,int);
        long chair(int); int law(int); int sheet(int,int,int); int lose(int); int put(int,int,int);
        long cell(int,int,int); int copy(int,int,int,int,int); int tell(int); int greet(int); int as(int,int);
        int trace(); int fault(); int many(int)""";

    public static void main(String[] args) throws IOException {
        methods();
        members();
        constants();
        classesInside();
        words(Files.readString(FILE));
        lengths(Files.readAllLines(FILE));
        due.end();
    }

    private static void holds(String what, boolean holds) {
        due.is(what, 1, holds ? 1 : 0);
    }

    private static void methods() {
        Set<String> want = new TreeSet<>(Arrays.asList(FACE.split(";\\s+")));
        Set<String> there = new TreeSet<>();
        for (Method m : RoundAsk.class.getDeclaredMethods()) {
            if (!Modifier.isPrivate(m.getModifiers())) {
                String parameters = String.join(",",
                    Arrays.stream(m.getParameterTypes()).map(Class::getName).toList());
                there.add(m.getReturnType() + " " + m.getName() + "(" + parameters + ")");
                holds(m + " is public, not static, throws nothing",
                    m.getModifiers() == Modifier.PUBLIC && m.getExceptionTypes().length == 0);
            }
        }
        holds("methods are " + want + ": " + there, want.equals(there));
    }

    private static void members() {
        holds("public and final", RoundAsk.class.getModifiers() == (Modifier.PUBLIC | Modifier.FINAL));
        Constructor<?>[] all = RoundAsk.class.getDeclaredConstructors();
        holds("one public constructor", all.length == 1 && all[0].getModifiers() == Modifier.PUBLIC
            && all[0].getParameterCount() == 0);
        Set<String> constants = new TreeSet<>();
        for (Field f : RoundAsk.class.getDeclaredFields()) {
            if (!Modifier.isPrivate(f.getModifiers())) {
                constants.add(f.getType() + " " + f.getName());
                holds(f + " is a constant",
                    f.getModifiers() == (Modifier.PUBLIC | Modifier.STATIC | Modifier.FINAL));
            }
        }
        holds("constants: " + constants, constants.equals(Set.of("int UNKNOWN", "int OUTSIDE", "int STATE",
            "int FULL", "int NONE", "long LOST")));
    }

    /** As the document's face tells them, each by itself. */
    private static void constants() {
        due.is("UNKNOWN", -1, RoundAsk.UNKNOWN);
        due.is("OUTSIDE", -2, RoundAsk.OUTSIDE);
        due.is("STATE", -3, RoundAsk.STATE);
        due.is("FULL", -4, RoundAsk.FULL);
        due.is("NONE", -9, RoundAsk.NONE);
        due.is("LOST", -9223372036854775808L, RoundAsk.LOST);
    }

    private static void classesInside() {
        Set<String> names = new TreeSet<>();
        for (Method m : RoundAsk.class.getDeclaredMethods()) {
            if (Modifier.isPublic(m.getModifiers())) {
                names.add(m.getName());
            }
        }
        Class<?>[] inside = RoundAsk.class.getDeclaredClasses();
        holds("twelve classes at most", inside.length < 12);
        for (Class<?> c : inside) {
            holds(c + " is static, not public", Modifier.isStatic(c.getModifiers())
                && !Modifier.isPublic(c.getModifiers()) && !Modifier.isProtected(c.getModifiers()));
            long fields = Arrays.stream(c.getDeclaredFields()).filter(f -> !Modifier.isStatic(f.getModifiers())).count();
            holds(c + " has twenty fields at most", fields <= 20);
            for (Method m : c.getDeclaredMethods()) {
                holds(m + " bears no public name", !names.contains(m.getName()));
            }
        }
        for (Class<?> c : inside) {
            for (Field f : c.getDeclaredFields()) {
                holds(f + ": static is final", !Modifier.isStatic(f.getModifiers()) || Modifier.isFinal(f.getModifiers()));
            }
        }
    }

    private static void words(String text) {
        holds("ASCII", text.chars().allMatch(c -> c < 127));
        String code = text.replaceAll("(?s)/\\*.*?\\*/", " ").replaceAll("//[^\n]*", " ");
        for (String word : List.of("throw", "throws", "try", "catch", "finally", "synchronized", "assert", "package",
                "instanceof", "double", "float", "yield", "var", "Object", "Random", "Thread", "native")) {
            holds("no " + word, !Pattern.compile("\\b" + word + "\\b").matcher(code).find());
        }
        for (String sign : List.of("->", "::", "\"", "@", "equals", "hashCode", "toString", "Exact")) {
            holds("no " + sign, !code.contains(sign));
        }
        Matcher library = Pattern.compile("\\b(System|Arrays|Math|Integer|Long)\\.(\\w+)").matcher(code);
        while (library.find()) {
            holds(library.group() + " stands in rule 4", Set.of("System.arraycopy", "Arrays.fill", "Math.max",
                "Math.min", "Long.MIN_VALUE").contains(library.group()));
        }
        Matcher imports = Pattern.compile("import ([^;]*);").matcher(code);
        while (imports.find()) {
            due.is("import " + imports.group(1), 0, imports.group(1).compareTo("java.util.Arrays"));
        }
    }

    private static void lengths(List<String> lines) {
        int begun = 0;
        for (int k = 0; k < lines.size(); k++) {
            String line = lines.get(k);
            holds("line " + (k + 1) + " is short", line.length() <= 110 && !line.contains("\t"));
            if (line.matches(" +((public|private|static) )*\\w[\\w\\[\\]]* \\w+\\(.*\\) \\{")) {
                begun = k;
                holds("line " + (k + 1) + ": seven parameters at most", line.chars().filter(c -> c == ',').count() < 7);
            }
            holds("line " + (k + 1) + ": sixty lines at most", !line.matches(" {4,8}\\}") || begun == 0 || k - begun <= 60);
            if (line.matches(" {4,8}\\}")) {
                begun = 0;
            }
        }
    }
}
