import java.io.IOException;
import java.lang.reflect.Constructor;
import java.lang.reflect.Field;
import java.lang.reflect.Member;
import java.lang.reflect.Method;
import java.lang.reflect.Modifier;
import java.nio.file.Files;
import java.nio.file.Path;
import java.util.Arrays;
import java.util.HashSet;
import java.util.List;
import java.util.Set;
import java.util.TreeSet;
import java.util.regex.Matcher;
import java.util.regex.Pattern;

/** The public face, to the letter, and those rules of LANGUAGE.md that can be seen in the file. */
public final class FaceTest {
    private static final Due due = new Due("FaceTest");
    private static final String SOURCE = "src/main/java/ChunkLayers.java";
    private static final List<String> METHODS = List.of(
        "int put(int)", "int set(int,int)", "int cut(int)", "int at(int)", "int check(int,int,int)",
        "int feed(int)", "int write(int)", "int read()", "int fault(int,int)", "int recovered()",
        "long thing(int,int)", "int shown(int,int)", "int mends(int,int)", "int flips()", "int as(int,int)",
        "int see(int,int)", "int fits(int)", "long odds(int)", "long mean(int)", "int plan(int,int)",
        "int ends(int)", "int book(int,int)", "int looked()", "int judge(int,int)", "int image()", "int undo()",
        "int taken(int,int)", "int count(int)", "int tape(int,int,int)", "int item(int,int,long)",
        "long peek(int,int)", "int shift(int,int,int,int,int)");

    public static void main(String[] args) throws IOException {
        constants();
        methods();
        members();
        String code = withoutTexts(Files.readString(Path.of(SOURCE)));
        words(code);
        sizes(code);
        due.end();
    }

    private static void constants() {
        due.is("NONE", ChunkLayers.NONE, -1);
        due.is("BAD", ChunkLayers.BAD, -2);
        due.is("STATE", ChunkLayers.STATE, -3);
        due.is("FULL", ChunkLayers.FULL, -4);
        due.is("NO", ChunkLayers.NO, Long.MIN_VALUE);
        Set<String> names = new TreeSet<>();
        for (Field field : ChunkLayers.class.getDeclaredFields()) {
            if (!Modifier.isPrivate(field.getModifiers())) {
                names.add(field.toString());
            }
        }
        due.holds("the constants: " + names, names.equals(Set.of(
            "public static final int ChunkLayers.NONE", "public static final int ChunkLayers.BAD",
            "public static final int ChunkLayers.STATE", "public static final int ChunkLayers.FULL",
            "public static final long ChunkLayers.NO")));
    }

    private static void methods() {
        Set<String> names = new HashSet<>();
        Set<String> told = new TreeSet<>();
        for (Method method : ChunkLayers.class.getDeclaredMethods()) {
            if (!Modifier.isPrivate(method.getModifiers())) {
                told.add(method.toString());
                names.add(method.getName());
            }
        }
        Set<String> want = new TreeSet<>();
        for (String method : METHODS) {
            int blank = method.indexOf(' ');
            want.add("public " + method.substring(0, blank) + " ChunkLayers." + method.substring(blank + 1));
        }
        due.holds("the methods: " + told, told.equals(want));
        for (Class<?> of : allClasses()) {
            for (Method method : of.getDeclaredMethods()) {
                boolean isHidden = Modifier.isPrivate(method.getModifiers());
                due.holds("a name of its own: " + method, !isHidden || !names.contains(method.getName()));
            }
        }
    }

    private static List<Class<?>> allClasses() {
        List<Class<?>> all = new java.util.ArrayList<>(Arrays.asList(ChunkLayers.class.getDeclaredClasses()));
        all.add(ChunkLayers.class);
        return all;
    }

    private static void members() {
        due.is("modifiers", ChunkLayers.class.getModifiers(), Modifier.PUBLIC | Modifier.FINAL);
        Constructor<?>[] constructors = ChunkLayers.class.getDeclaredConstructors();
        due.is("constructors", constructors.length, 1);
        due.is("constructor", constructors[0].getModifiers(), Modifier.PUBLIC);
        due.is("its parameters", constructors[0].getParameterCount(), 0);
        due.holds("some twelve classes", allClasses().size() <= 14);
        for (Class<?> of : allClasses()) {
            due.holds("static and hidden: " + of, of == ChunkLayers.class || Modifier.isStatic(of.getModifiers())
                && (of.getModifiers() & (Modifier.PUBLIC | Modifier.PROTECTED)) == 0);
            due.is("classes inside " + of, of == ChunkLayers.class ? 0 : of.getDeclaredClasses().length, 0);
            due.holds("some twenty fields: " + of, Arrays.stream(of.getDeclaredFields())
                .filter(field -> !Modifier.isStatic(field.getModifiers())).count() <= 24);
            for (Field field : of.getDeclaredFields()) {
                due.holds("final if static: " + field,
                    !Modifier.isStatic(field.getModifiers()) || Modifier.isFinal(field.getModifiers()));
            }
            for (Method method : of.getDeclaredMethods()) {
                due.holds("at most seven parameters: " + method, method.getParameterCount() <= 7);
                due.holds("no machine's own: " + method, isOwn(method));
            }
        }
    }

    /** No lambda and no bridge stands behind it. */
    private static boolean isOwn(Member member) {
        return !member.isSynthetic();
    }

    private static String withoutTexts(String source) {
        return source.replaceAll("(?s)/\\*.*?\\*/", "").replaceAll("//.*", "")
            .replaceAll("'\\\\?.'", "0").replaceAll("\"[^\"]*\"", "0");
    }

    private static void words(String code) {
        Matcher words = Pattern.compile("\\b(throws?|try|catch|finally|synchronized|assert|package|volatile|transient"
            + "|native|Object|Exception|Thread|Random|static\\s*\\{)|::").matcher(code);
        while (words.find()) {
            due.holds("no '" + words.group() + "' in the code", false);
        }
        Matcher library = Pattern.compile("\\b(System|Arrays)\\.(\\w+)").matcher(code);
        Set<String> wanted = Set.of("System.arraycopy", "Arrays.copyOf", "Arrays.copyOfRange", "Arrays.fill");
        while (library.find()) {
            due.holds("of the library's part: " + library.group(), wanted.contains(library.group()));
        }
        Matcher exact = Pattern.compile("\\b(Math|Integer|Long)\\.\\w+Exact\\b").matcher(code);
        while (exact.find()) {
            due.holds("none that may throw: " + exact.group(), false);
        }
        due.holds("signs 1 to 127 alone", code.chars().allMatch(sign -> sign > 0 && sign < 128));
    }

    /** Methods stand four or eight blanks deep here. */
    private static void sizes(String code) {
        int start = 0;
        int number = 0;
        for (String line : code.split("\n")) {
            number++;
            if (line.matches("( {4}| {8})(public|private|[a-zA-Z]).*\\{")) {
                start = number;
            }
            if (line.matches("( {4}| {8})\\}")) {
                boolean isMethod = number - start <= 64;
                due.holds("a short method, ending in line " + number, isMethod || line.matches(" {4}\\}"));
            }
        }
    }
}
