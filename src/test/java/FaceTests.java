import java.lang.management.ManagementFactory;
import java.lang.reflect.Constructor;
import java.lang.reflect.Field;
import java.lang.reflect.Method;
import java.lang.reflect.Modifier;
import java.util.Map;
import java.util.Set;
import java.util.TreeMap;
import java.util.TreeSet;
import java.util.regex.Matcher;
import java.util.regex.Pattern;

/** The public face, the rules of LANGUAGE.md that can be seen from outside, and the room that calls take. */
public final class FaceTests {
    private static final Checks CHECKS = new Checks();
    private static final Pattern METHOD = Pattern.compile("public (int|long) (\\w+)\\(([^)]*)\\);");
    private static final Pattern CONSTANT = Pattern.compile("([A-Z]+) = (-?\\d+)[,;]");
    private static final int MOST_PARAMETERS = 7, MOST_LINES = 60, MOST_CLASSES = 12, MOST_FIELDS = 20;
    private static final String[] NOT_ALLOWED = {
        "\\bthrow\\b", "\\bthrows\\b", "\\btry\\b", "\\bcatch\\b", "\\bfinally\\b", "\\bsynchronized\\b", "\\bassert\\b",
        "->", "::", "@", "\\bpackage\\b", "\\bObject\\b", "\\bRuntime\\b", "\\bThread\\b", "\\bRandom\\b",
        "\\bSystem\\.(?!arraycopy)", "\\bInteger\\.(?!bitCount)", "\\bMath\\.(?!min|max)", "Exact\\b", "[^\\x00-\\x7f]"};

    public static void main(String[] args) throws Exception {
        String face = faceOfTheDocument(Checks.read("../shared/DOC.md"));
        methodsAreThoseOfTheFace(face);
        constantsAreThoseOfTheFace(face);
        nothingElseIsSeen();
        classesKeepTheRules();
        sourceKeepsTheRules(Checks.read("src/main/java/SleepCalls.java"));
        callsMakeNothing();
        CHECKS.end("FaceTests");
    }

    private static String faceOfTheDocument(String document) {
        int begin = document.indexOf("```java");
        int end = document.indexOf("```", begin + 3);
        CHECKS.isSo("the document has a face", begin >= 0 && end > begin);
        return document.substring(Math.max(begin, 0), Math.max(end, 0));
    }

    private static void methodsAreThoseOfTheFace(String face) throws Exception {
        CHECKS.isSo("public and final", SleepCalls.class.getModifiers() == (Modifier.PUBLIC | Modifier.FINAL));
        CHECKS.isSo("a public constructor", Modifier.isPublic(SleepCalls.class.getConstructor().getModifiers()));
        Set<String> due = new TreeSet<>();
        Matcher method = METHOD.matcher(face);
        while (method.find()) {
            String types = method.group(3).replaceAll("int \\w+", "int").replace(" ", "");
            due.add(method.group(1) + " " + method.group(2) + "(" + types + ")");
        }
        Set<String> methods = new TreeSet<>();
        for (Method m : SleepCalls.class.getDeclaredMethods()) {
            if (Modifier.isPublic(m.getModifiers())) {
                methods.add(described(m));
                CHECKS.isSo("not static: " + m, !Modifier.isStatic(m.getModifiers()));
            }
        }
        CHECKS.due("methods of the document's face", due.size(), 26);
        CHECKS.isSo("just the methods of the face: " + methods + " for " + due, methods.equals(due));
    }

    private static void constantsAreThoseOfTheFace(String face) throws Exception {
        Map<String, Integer> due = new TreeMap<>();
        Matcher constant = CONSTANT.matcher(face);
        while (constant.find()) {
            due.put(constant.group(1), Integer.valueOf(constant.group(2)));
        }
        Map<String, Integer> constants = new TreeMap<>();
        for (Field f : SleepCalls.class.getDeclaredFields()) {
            if (Modifier.isPublic(f.getModifiers())) {
                CHECKS.isSo("an int that stays: " + f, f.getType() == int.class && Modifier.isFinal(f.getModifiers()));
                constants.put(f.getName(), f.getInt(null));
            }
        }
        CHECKS.due("constants of the document's face", due.size(), 5);
        CHECKS.isSo("just the constants of the face: " + constants + " for " + due, constants.equals(due));
    }

    private static String described(Method m) {
        StringBuilder types = new StringBuilder();
        for (Class<?> type : m.getParameterTypes()) {
            types.append(types.length() > 0 ? "," : "").append(type.getName());
        }
        return m.getReturnType().getName() + " " + m.getName() + "(" + types + ")";
    }

    private static void nothingElseIsSeen() {
        Set<String> names = new TreeSet<>();
        for (Method m : SleepCalls.class.getDeclaredMethods()) {
            if (Modifier.isPublic(m.getModifiers())) {
                names.add(m.getName());
            }
        }
        for (Field f : SleepCalls.class.getDeclaredFields()) {
            CHECKS.isSo("a field is private or of the face: " + f, (f.getModifiers() & (Modifier.PUBLIC | Modifier.PRIVATE)) != 0);
        }
        for (Constructor<?> c : SleepCalls.class.getDeclaredConstructors()) {
            CHECKS.isSo("one constructor: " + c, c.getParameterCount() == 0);
        }
        hiddenMethods(SleepCalls.class, names);
        for (Class<?> inside : SleepCalls.class.getDeclaredClasses()) {
            CHECKS.isSo("static: " + inside, Modifier.isStatic(inside.getModifiers()));
            CHECKS.isSo("not public: " + inside, !Modifier.isPublic(inside.getModifiers()));
            hiddenMethods(inside, names);
        }
    }

    private static void hiddenMethods(Class<?> type, Set<String> names) {
        for (Method m : type.getDeclaredMethods()) {
            if (!Modifier.isPublic(m.getModifiers())) {
                CHECKS.isSo("no name of the face: " + m, !names.contains(m.getName()));
                CHECKS.isSo("private in the face's class: " + m, type != SleepCalls.class || Modifier.isPrivate(m.getModifiers()));
            }
        }
    }

    /** Rules 5 and 11: what may be static, and how large a class may be. */
    private static void classesKeepTheRules() {
        Class<?>[] inside = SleepCalls.class.getDeclaredClasses();
        CHECKS.isSo("few classes", inside.length + 1 <= MOST_CLASSES);
        classKeepsTheRules(SleepCalls.class);
        for (Class<?> type : inside) {
            classKeepsTheRules(type);
        }
    }

    private static void classKeepsTheRules(Class<?> type) {
        int fields = 0;
        for (Field f : type.getDeclaredFields()) {
            boolean isStatic = Modifier.isStatic(f.getModifiers());
            fields += isStatic ? 0 : 1;
            CHECKS.isSo("a static field is a constant: " + f, !isStatic || Modifier.isFinal(f.getModifiers()) && f.getType() == int.class);
        }
        CHECKS.isSo("few fields: " + type + " has " + fields, fields <= MOST_FIELDS);
        for (Method m : type.getDeclaredMethods()) {
            CHECKS.isSo("few parameters: " + m, m.getParameterCount() <= MOST_PARAMETERS);
        }
    }

    private static void sourceKeepsTheRules(String source) {
        String code = source.replaceAll("(?s)/\\*.*?\\*/", " ").replaceAll("//[^\\n]*", " ");
        for (String word : NOT_ALLOWED) {
            CHECKS.isSo("not in the source: " + word, !Pattern.compile(word).matcher(code).find());
        }
        methodsAreShort(code);
    }

    /** What a line that ends in ") {" begins ends at the next lone brace that stands as far in. */
    private static void methodsAreShort(String code) {
        String[] lines = code.split("\n");
        for (int i = 0; i < lines.length; i++) {
            if (lines[i].endsWith(") {")) {
                CHECKS.isSo("a short method: " + lines[i], linesUpTo(lines, i) <= MOST_LINES);
            }
        }
    }

    private static int linesUpTo(String[] lines, int begin) {
        String brace = lines[begin].substring(0, lines[begin].indexOf(lines[begin].trim())) + "}";
        int end = begin;
        while (end < lines.length && !lines[end].equals(brace)) {
            end++;
        }
        return end - begin + 1;
    }

    /** A run's calls share one room, so all arrays are made with the object and no call makes another. */
    private static void callsMakeNothing() {
        com.sun.management.ThreadMXBean threads = (com.sun.management.ThreadMXBean) ManagementFactory.getThreadMXBean();
        long thread = Thread.currentThread().getId();
        String text = "d4;q2;e0 1;e1 2;e2 3;b0 1;c0 9 0 5;c0 9 1 5;c1 9 2 5;c2 9 4 5;c3 9 8 5;c3 9 0 5;n0 0 6;n1 1 6;";
        SleepCalls x = new SleepCalls();
        allCalls(x, text);
        threads.getThreadAllocatedBytes(thread);
        long before = threads.getThreadAllocatedBytes(thread);
        allCalls(x, text);
        long behind = threads.getThreadAllocatedBytes(thread);
        CHECKS.due("bytes made by calls", behind - before, 0);
    }

    private static long allCalls(SleepCalls x, String text) {
        long sum = 0;
        for (int i = 0; i < text.length(); i++) {
            sum += x.type(text.charAt(i));
        }
        sum += x.city() + x.type('x') + x.city() + x.clear();
        for (int c = 0; c < 6; c++) {
            sum += x.calls(c, 255) + x.citizen(c, c) + x.noise(c, 0) + x.now(c) + x.count(c) + x.rate(c, c);
        }
        for (int i = 0; i < 12; i++) {
            sum += x.hour() + x.counted(i, 1) + x.keep(i % 2);
        }
        sum += x.undo() + x.asleepIn(80) + x.lapse() + x.callUp(3, 0) + x.bears() + x.cart(0, 3, 9, 0) + x.drum(0);
        sum += x.wants(0) + x.sham() + x.odds(5, 0) + x.forget() + x.back(0) + x.trace() + x.district(0, 0);
        return sum;
    }
}
