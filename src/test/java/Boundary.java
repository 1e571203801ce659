/** What the boundary tests share. Each of their methods is for one sentence of the document, which stands above it. */
abstract class Boundary {
    static final int BAD = -1, STATE = -2, FULL = -3, NONE = -9, NO = -1000000, NOT_SO_MANY = -5;
    static final int[] FAR_OFF = {Integer.MIN_VALUE, -1000, 1000, Integer.MAX_VALUE};
    static final Checks CHECKS = new Checks();

    static void due(String call, long got, long want) {
        CHECKS.due(call, got, want);
    }

    static void alike(String call, String got, String want) {
        CHECKS.isSo(call + ": " + got + " for " + want, got.equals(want));
    }

    /** A text that is read: how many items. */
    static Life items(String text, int items) {
        Life x = new Life();
        x.write(text);
        due("items of '" + text + "'", x.city(), items);
        due("'" + text + "' is gone when it is read", x.count(5), 0);
        return x;
    }

    /** A text that is refused: where, and that it stays, so that it is refused again. */
    static Life fault(String text, int place) {
        Life x = new Life();
        x.write(text);
        due("fault of '" + text + "'", x.city(), -10 - place);
        due("'" + text + "' stays", x.count(5), text.length());
        due("fault of '" + text + "' once more", x.city(), -10 - place);
        return x;
    }

    static String repeat(String part, int times) {
        return part.repeat(times);
    }
}
