import java.lang.management.ManagementFactory;
import java.lang.reflect.Constructor;
import java.lang.reflect.Field;
import java.lang.reflect.Method;
import java.lang.reflect.Modifier;
import java.nio.charset.StandardCharsets;
import java.nio.file.Files;
import java.nio.file.Path;
import java.util.Arrays;
import java.util.Set;
import java.util.TreeSet;
import java.util.regex.Pattern;

/** The public face, the rules of LANGUAGE.md that can be seen from outside, and the room that calls take. */
public final class FaceTests {
    private static final Checks CHECKS = new Checks();
    private static final String[] FACE = {
        "int type(int)", "int clear()", "int city()", "int district(int,int)", "int citizen(int,int)",
        "int noise(int,int)", "int now(int)", "int calls(int,int)", "int hour()", "int undo()", "int asleepIn(int)",
        "int lapse()", "int callUp(int,int)", "int bears()", "int cart(int,int,int,int)", "int drum(int)",
        "int wants(int)", "int counted(int,int)", "int forget()", "int sham()", "int odds(int,int)",
        "int rate(int,int)", "int keep(int)", "int back(int)", "int count(int)", "long trace()"};
    private static final String[] NOT_ALLOWED = {
        "\\bthrow\\b", "\\bthrows\\b", "\\btry\\b", "\\bcatch\\b", "\\bfinally\\b", "\\bsynchronized\\b", "\\bassert\\b",
        "->", "::", "@", "\\bpackage\\b", "\\bObject\\b", "\\bRuntime\\b", "\\bThread\\b", "\\bRandom\\b",
        "\\bSystem\\.(?!arraycopy)", "\\bInteger\\.(?!bitCount)", "\\bMath\\.(?!min|max)", "Exact\\b", "[^\\x00-\\x7f]"};

    public static void main(String[] args) throws Exception {
        faceIsWhole();
        nothingElseIsSeen();
        sourceKeepsTheRules(args.length > 0 ? args[0] : "src/main/java/SleepCalls.java");
        callsMakeNothing();
        CHECKS.end("FaceTests");
    }

    private static void isSo(String what, boolean so) {
        CHECKS.due(what, so ? 1 : 0, 1);
    }

    private static void faceIsWhole() throws Exception {
        isSo("public and final", SleepCalls.class.getModifiers() == (Modifier.PUBLIC | Modifier.FINAL));
        isSo("a public constructor", Modifier.isPublic(SleepCalls.class.getConstructor().getModifiers()));
        Set<String> methods = new TreeSet<>();
        for (Method m : SleepCalls.class.getDeclaredMethods()) {
            if (Modifier.isPublic(m.getModifiers())) {
                methods.add(described(m));
                isSo("not static: " + m, !Modifier.isStatic(m.getModifiers()));
            }
        }
        isSo("just the methods of the face: " + methods, methods.equals(new TreeSet<>(Arrays.asList(FACE))));
    }

    private static String described(Method m) {
        StringBuilder types = new StringBuilder();
        for (Class<?> type : m.getParameterTypes()) {
            types.append(types.length() > 0 ? "," : "").append(type.getName());
        }
        return m.getReturnType().getName() + " " + m.getName() + "(" + types + ")";
    }

    private static void nothingElseIsSeen() {
        Set<String> constants = new TreeSet<>(Arrays.asList("BAD", "STATE", "FULL", "NONE", "NO"));
        Set<String> names = new TreeSet<>();
        for (String method : FACE) {
            names.add(method.substring(method.indexOf(' ') + 1, method.indexOf('(')));
        }
        for (Field f : SleepCalls.class.getDeclaredFields()) {
            boolean isPublic = Modifier.isPublic(f.getModifiers());
            isSo("a field is private or of the face: " + f, isPublic ? constants.remove(f.getName()) : Modifier.isPrivate(f.getModifiers()));
        }
        isSo("all constants are there", constants.isEmpty());
        for (Constructor<?> c : SleepCalls.class.getDeclaredConstructors()) {
            isSo("one constructor: " + c, c.getParameterCount() == 0);
        }
        hiddenMethods(SleepCalls.class, names);
        for (Class<?> inside : SleepCalls.class.getDeclaredClasses()) {
            isSo("static: " + inside, Modifier.isStatic(inside.getModifiers()));
            isSo("not public: " + inside, !Modifier.isPublic(inside.getModifiers()));
            hiddenMethods(inside, names);
        }
    }

    private static void hiddenMethods(Class<?> type, Set<String> names) {
        for (Method m : type.getDeclaredMethods()) {
            if (!Modifier.isPublic(m.getModifiers())) {
                isSo("no name of the face: " + m, !names.contains(m.getName()));
                isSo("private in the face's class: " + m, type != SleepCalls.class || Modifier.isPrivate(m.getModifiers()));
            }
        }
    }

    private static void sourceKeepsTheRules(String path) throws Exception {
        String source = new String(Files.readAllBytes(Path.of(path)), StandardCharsets.ISO_8859_1);
        String code = source.replaceAll("(?s)/\\*.*?\\*/", " ").replaceAll("//[^\\n]*", " ");
        for (String word : NOT_ALLOWED) {
            isSo("not in the source: " + word, !Pattern.compile(word).matcher(code).find());
        }
    }

    /** A run's calls share one room, so all arrays are made with the object and no call makes another. */
    private static void callsMakeNothing() {
        com.sun.management.ThreadMXBean threads = (com.sun.management.ThreadMXBean) ManagementFactory.getThreadMXBean();
        long thread = Thread.currentThread().getId();
        String text = "d4;q2;e0 1;e1 2;e2 3;b0 1;c0 9 0 5;c0 9 1 5;c1 9 2 5;c2 9 4 5;c3 9 8 5;c3 9 0 5;n0 0 6;n1 1 6;";
        SleepCalls x = new SleepCalls();
        allCalls(x, text);
        threads.getThreadAllocatedBytes(thread);
        long before = threads.getThreadAllocatedBytes(thread);
        allCalls(x, text);
        long behind = threads.getThreadAllocatedBytes(thread);
        CHECKS.due("bytes made by calls", behind - before, 0);
    }

    private static long allCalls(SleepCalls x, String text) {
        long sum = 0;
        for (int i = 0; i < text.length(); i++) {
            sum += x.type(text.charAt(i));
        }
        sum += x.city() + x.type('x') + x.city() + x.clear();
        for (int c = 0; c < 6; c++) {
            sum += x.calls(c, 255) + x.citizen(c, c) + x.noise(c, 0) + x.now(c) + x.count(c) + x.rate(c, c);
        }
        for (int i = 0; i < 12; i++) {
            sum += x.hour() + x.counted(i, 1) + x.keep(i % 2);
        }
        sum += x.undo() + x.asleepIn(80) + x.lapse() + x.callUp(3, 0) + x.bears() + x.cart(0, 3, 9, 0) + x.drum(0);
        sum += x.wants(0) + x.sham() + x.odds(5, 0) + x.forget() + x.back(0) + x.trace() + x.district(0, 0);
        return sum;
    }
}
