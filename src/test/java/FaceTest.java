import java.lang.reflect.Constructor;
import java.lang.reflect.Field;
import java.lang.reflect.Method;
import java.lang.reflect.Modifier;
import java.nio.file.Files;
import java.nio.file.Path;
import java.util.Set;
import java.util.TreeSet;
import java.util.regex.Matcher;
import java.util.regex.Pattern;

/** The public face is the document's and no more, and the source keeps to what LANGUAGE.md rules out by words. */
public final class FaceTest {
    private static final String SOURCE = "src/main/java/BroadcastPlant.java";
    private static final String[] FACE = {
        "clip(int,int)", "fill(int)", "local(int)", "event(int,int,int,int,int)", "skip(int,int)", "take(int)",
        "hold(int,boolean)", "overrun(int,int)", "fail(int,int,int)", "set(int,int,int,int)", "buffer(int,int)", "total(int)",
        "service(int,boolean)", "lines(int,int)", "lose(int,int)", "alter(int,int,int)", "tick(int)", "eventOf(int,int,int)",
        "source(int,int,int)", "rows(int)", "row(int,int,int)", "unit(int,int,int)", "sent(int,int)", "stored(int)",
        "shown(int,int,int)", "region(int,int)", "alarm(int,int,int)", "faults(int)", "told(int)"};
    private static final String RULED_OUT =
        "\\b(throw|throws|try|catch|synchronized|assert|volatile|native|protected|import static|package|Object|random|nanoTime"
        + "|currentTimeMillis|\\w+Exact)\\b|->|::|\\bstatic\\s*\\{|\"";

    private static int wrong;

    private static void due(String what, Object got, Object want) {
        if (want.equals(got)) return;
        wrong++;
        System.out.println(what + ": " + got + ", due is " + want);
    }

    public static void main(String[] args) throws Exception {
        face();
        nested();
        words(Files.readString(Path.of(SOURCE)));
        System.out.println(wrong + " wrong");
        if (wrong != 0) System.exit(1);
    }

    private static String text(Method m) {
        StringBuilder s = new StringBuilder(m.getName()).append('(');
        for (Class<?> c : m.getParameterTypes()) s.append(s.charAt(s.length() - 1) == '(' ? "" : ",").append(c.getName());
        return s.append(')').toString();
    }

    private static void face() throws Exception {
        Class<?> of = BroadcastPlant.class;
        due("modifiers", of.getModifiers(), Modifier.PUBLIC | Modifier.FINAL);
        Set<String> methods = new TreeSet<>(), constants = new TreeSet<>();
        Set<String> names = new TreeSet<>();
        for (Method m : of.getDeclaredMethods()) {
            if (Modifier.isPrivate(m.getModifiers())) continue;
            methods.add(text(m));
            names.add(m.getName());
            due(m + " is public alone", m.getModifiers(), Modifier.PUBLIC);
            due(m + " answers", m.getReturnType(), int.class);
        }
        due("methods", methods, new TreeSet<>(Set.of(FACE)));
        for (Method m : of.getDeclaredMethods()) {
            if (Modifier.isPrivate(m.getModifiers())) due(m + " has a name of its own", names.contains(m.getName()), false);
        }
        for (Field f : of.getDeclaredFields()) {
            if (!Modifier.isPrivate(f.getModifiers())) constants.add(f.getName() + " " + f.getInt(null));
        }
        due("constants", constants, new TreeSet<>(Set.of("NONE -1", "BAD -2", "FULL -3")));
        Constructor<?>[] constructors = of.getDeclaredConstructors();
        due("constructors", constructors.length, 1);
        due("constructor", constructors[0].toString(), "public BroadcastPlant(int,int)");
    }

    private static void nested() {
        Class<?>[] nested = BroadcastPlant.class.getDeclaredClasses();
        due("at most twelve classes", nested.length < 12, true);
        for (Class<?> c : nested) {
            due(c + " is private and static", c.getModifiers() & 15, Modifier.PRIVATE | Modifier.STATIC);
            int fields = 0;
            for (Field f : c.getDeclaredFields()) {
                boolean isStatic = Modifier.isStatic(f.getModifiers());
                if (!isStatic) fields++;
                else due(f + " is final", Modifier.isFinal(f.getModifiers()), true);
            }
            due(c + " has at most twenty fields", fields <= 20, true);
            for (Method m : c.getDeclaredMethods()) due(m + " takes at most seven", m.getParameterCount() <= 7, true);
        }
    }

    private static void words(String source) {
        String bare = source.replaceAll("(?s)/\\*.*?\\*/", " ").replaceAll("//[^\n]*", " ");
        Matcher m = Pattern.compile(RULED_OUT).matcher(bare);
        while (m.find()) due("ruled out", m.group(), "nothing");
        m = Pattern.compile("import ([\\w.]+);").matcher(bare);
        while (m.find()) due("imported", m.group(1), "java.util.Arrays");
    }
}
