import java.lang.reflect.Method;
import java.lang.reflect.Modifier;
import java.nio.file.Files;
import java.nio.file.Path;
import java.util.Map;
import java.util.Set;
import java.util.TreeMap;
import java.util.TreeSet;
import java.util.regex.Matcher;
import java.util.regex.Pattern;
import java.util.stream.Stream;

/** README.md: its examples answer as it says, and its tables are whole and as the document has it. */
public final class ReadmeTests {
    private static final Checks CHECKS = new Checks();
    private static final Pattern BLOCK = Pattern.compile("(?s)```java\n(.*?)```");
    private static final Pattern TEXT = Pattern.compile("String text = \"([^\"]*)\";");
    private static final Pattern ANSWERED = Pattern.compile("x\\.(\\w+)\\(([^)]*)\\);\\s*// (-?\\d+)\\b.*");
    private static final Pattern ROW = Pattern.compile("(?m)^\\| `(\\w+)\\(([^)]*)\\)` \\| (.+?) \\|(.*)\\|$");
    private static final Pattern PROMISE = Pattern.compile("## Promise \\d+: \\w+\n\n`(?:int|long) (\\w+)\\(([^)]*)\\)`: (.*)");
    private static final Pattern NOT_A_NUMBER = Pattern.compile("\\b(BAD|STATE|FULL|NONE|NO)\\b");
    private static final Pattern ITEM = Pattern.compile("(?m)^\\| `([dqebcn])((?: [A-Z])+);` \\|");

    public static void main(String[] args) throws Exception {
        String readme = Checks.read("README.md");
        examplesAnswer(readme);
        callsAreThoseOfTheDocument(readme, Checks.read("../shared/DOC.md"));
        itemsAreRead(readme);
        refusalsAreNamed(readme);
        testsAreNamed(readme);
        CHECKS.end("ReadmeTests");
    }

    private static void examplesAnswer(String readme) throws Exception {
        int blocks = 0;
        Matcher block = BLOCK.matcher(readme);
        while (block.find()) {
            blocks++;
            exampleAnswers(block.group(1));
        }
        CHECKS.isSo("README has examples", blocks > 0);
    }

    /** A line is one of three that every example begins with, or a call with its answer behind it. */
    private static void exampleAnswers(String block) throws Exception {
        SleepCalls x = null;
        String text = "";
        for (String line : block.split("\n")) {
            Matcher told = TEXT.matcher(line);
            Matcher answered = ANSWERED.matcher(line);
            if (line.equals("SleepCalls x = new SleepCalls();")) {
                x = new SleepCalls();
            } else if (told.matches()) {
                text = told.group(1);
            } else if (line.equals("for (int i = 0; i < text.length(); i++) x.type(text.charAt(i));")) {
                Checks.type(x, text);
            } else if (answered.matches()) {
                CHECKS.due(line, answer(x, answered.group(1), answered.group(2)), Long.parseLong(answered.group(3)));
            } else {
                CHECKS.isSo("a call and its answer: " + line, false);
            }
        }
    }

    private static long answer(SleepCalls x, String name, String arguments) throws Exception {
        String[] parts = arguments.isEmpty() ? new String[0] : arguments.split(", ");
        Class<?>[] types = new Class<?>[parts.length];
        Object[] numbers = new Object[parts.length];
        for (int i = 0; i < parts.length; i++) {
            types[i] = int.class;
            numbers[i] = Integer.parseInt(parts[i]);
        }
        return ((Number) SleepCalls.class.getMethod(name, types).invoke(x, numbers)).longValue();
    }

    /** Each call stands in the table once, with the document's names and with what the document lets it answer. */
    private static void callsAreThoseOfTheDocument(String readme, String document) {
        Map<String, String> rows = new TreeMap<>();
        Matcher row = ROW.matcher(readme);
        while (row.find()) {
            CHECKS.isSo("one row: " + row.group(1), rows.put(row.group(1) + "(" + row.group(2) + ")", row.group(4)) == null);
        }
        Map<String, String> promises = new TreeMap<>();
        Matcher promise = PROMISE.matcher(document);
        while (promise.find()) {
            promises.put(promise.group(1) + "(" + promise.group(2).replace("int ", "") + ")", promise.group(3));
        }
        CHECKS.isSo("the calls of the document: " + rows.keySet(), rows.keySet().equals(promises.keySet()));
        CHECKS.due("as many as the class has", rows.size(), publicMethods());
        for (String call : rows.keySet()) {
            String told = promises.getOrDefault(call, "");
            CHECKS.isSo("what else it may answer: " + call, words(rows.get(call)).equals(words(told)));
        }
        CHECKS.isSo("-5 of callUp", rows.getOrDefault("callUp(n, i)", "").contains("-5"));
        CHECKS.isSo("-10 of city", rows.getOrDefault("city()", "").contains("-10"));
    }

    private static int publicMethods() {
        int many = 0;
        for (Method m : SleepCalls.class.getDeclaredMethods()) {
            many += Modifier.isPublic(m.getModifiers()) ? 1 : 0;
        }
        return many;
    }

    private static Set<String> words(String sentence) {
        Set<String> found = new TreeSet<>();
        Matcher word = NOT_A_NUMBER.matcher(sentence);
        while (word.find()) {
            found.add(word.group());
        }
        return found;
    }

    /** An ITEM as the table has it, with a number for each of its names, is read as one. */
    private static void itemsAreRead(String readme) {
        Set<String> letters = new TreeSet<>();
        Matcher item = ITEM.matcher(readme);
        while (item.find()) {
            letters.add(item.group(1));
            boolean isFirst = item.group(1).equals("d");
            String numbers = item.group(2).replaceAll("[ABDHKNTVW]", "1").replaceFirst("1$", "2");
            SleepCalls x = new SleepCalls();
            Checks.type(x, (isFirst ? "" : "d3;") + item.group(1) + numbers + ";");
            CHECKS.due("the ITEM " + item.group(1) + numbers, x.city(), isFirst ? 1 : 2);
        }
        CHECKS.isSo("all ITEMS: " + letters, letters.equals(Set.of("d", "q", "e", "b", "c", "n")));
    }

    private static void refusalsAreNamed(String readme) {
        CHECKS.isSo("BAD", readme.contains("`BAD` (" + SleepCalls.BAD + ")"));
        CHECKS.isSo("STATE", readme.contains("`STATE` (" + SleepCalls.STATE + ")"));
        CHECKS.isSo("FULL", readme.contains("`FULL` (" + SleepCalls.FULL + ")"));
        CHECKS.isSo("NONE", readme.contains("`NONE` (" + SleepCalls.NONE + ")"));
        CHECKS.isSo("NO", readme.contains("`NO` (" + SleepCalls.NO + ")"));
    }

    private static void testsAreNamed(String readme) throws Exception {
        CHECKS.isSo("how to run them", readme.contains("`.ci/run`") && Files.isExecutable(Path.of(".ci/run")));
        try (Stream<Path> files = Files.list(Path.of("src/test/java"))) {
            files.forEach(file -> {
                String name = file.getFileName().toString().replace(".java", "");
                CHECKS.isSo("README names " + name, readme.contains("`" + name + "`"));
            });
        }
    }
}
