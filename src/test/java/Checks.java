import java.io.IOException;
import java.nio.charset.StandardCharsets;
import java.nio.file.Files;
import java.nio.file.Path;

/** What the tests of the project share: telling a text, and counting the answers that are not as due. */
final class Checks {
    private int asked = 0;
    private int wrong = 0;

    void due(String call, long got, long want) {
        asked++;
        if (got != want) {
            wrong++;
            if (wrong <= 50) {
                System.out.println(call + " answered " + got + ", due is " + want);
            }
        }
    }

    void isSo(String what, boolean so) {
        due(what, so ? 1 : 0, 1);
    }

    boolean isRight() {
        return wrong == 0;
    }

    void end(String name) {
        System.out.println(name + ": " + asked + " answers, " + wrong + " not as due");
        if (wrong != 0 || asked == 0) {
            System.exit(1);
        }
    }

    static String read(String path) throws IOException {
        return new String(Files.readAllBytes(Path.of(path)), StandardCharsets.UTF_8);
    }

    static void type(SleepCalls x, String text) {
        for (int i = 0; i < text.length(); i++) {
            x.type(text.charAt(i));
        }
    }

    /** A new object that was told a text, which must be without fault. */
    static SleepCalls told(String text) {
        SleepCalls x = new SleepCalls();
        type(x, text);
        int items = x.city();
        if (items < 0) {
            throw new IllegalStateException("a fault in the test's own text " + text + ": " + items);
        }
        return x;
    }

    static void callAll(SleepCalls x, int hours) {
        for (int c = 0; c < x.count(2); c++) {
            x.calls(c, hours);
        }
    }
}
