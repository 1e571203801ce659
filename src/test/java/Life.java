/** A SleepCalls that counts its calls: behind the 512th nothing is promised, so no boundary test may ask there. */
final class Life {
    private static final int MOST_CALLS = 512;

    private final SleepCalls program = new SleepCalls();
    private int calls = 0;

    private SleepCalls next() {
        calls++;
        if (calls > MOST_CALLS) {
            throw new IllegalStateException("a test asks for more than " + MOST_CALLS + " calls of one object");
        }
        return program;
    }

    /** A new object that was told a text, which must be without fault. */
    static Life told(String text) {
        Life x = new Life();
        x.tell(text);
        return x;
    }

    void tell(String text) {
        write(text);
        int items = city();
        if (items < 0) {
            throw new IllegalStateException("a fault in the test's own text " + text + ": " + items);
        }
    }

    void write(String text) {
        for (int i = 0; i < text.length(); i++) {
            type(text.charAt(i));
        }
    }

    Life callAll(int hours) {
        int citizens = count(2);
        for (int c = 0; c < citizens; c++) {
            calls(c, hours);
        }
        return this;
    }

    Life pass(int hours) {
        for (int i = 0; i < hours; i++) {
            hour();
        }
        return this;
    }

    /** All that can be asked for without a change, in one text; some 80 calls. */
    String seen() {
        StringBuilder all = new StringBuilder();
        for (int i = 0; i < 6; i++) {
            all.append(count(i)).append(' ').append(now(i)).append(' ');
        }
        int districts = count(0);
        for (int d = 0; d < districts; d++) {
            all.append(district(d, 0)).append(' ').append(district(d, 1)).append(' ');
        }
        int citizens = count(2);
        for (int c = 0; c < citizens; c++) {
            for (int what = 0; what < 6; what++) {
                all.append(citizen(c, what)).append(' ');
            }
        }
        int noises = count(3);
        for (int i = 0; i < noises; i++) {
            for (int what = 0; what < 3; what++) {
                all.append(noise(i, what)).append(' ');
            }
        }
        return all.append(sham()).append(' ').append(trace()).toString();
    }

    /** What part 3 tells of the hours to come, in one text; some 60 calls. */
    String foreseen() {
        StringBuilder all = new StringBuilder();
        for (int n = 0; n <= 8; n++) {
            all.append(asleepIn(n)).append(' ');
        }
        for (int n = 1; n <= 3; n++) {
            for (int i = -1; i < n; i++) {
                all.append(callUp(n, i)).append(' ');
            }
        }
        int districts = count(0);
        for (int d = 0; d < districts; d++) {
            all.append(drum(d)).append(' ').append(wants(d)).append(' ');
            for (int to = 0; to < districts; to++) {
                all.append(cart(d, to, 9, 0)).append(' ').append(cart(d, to, 9, 1)).append(' ');
            }
        }
        return all.append(lapse()).append(' ').append(bears()).append(' ').append(odds(3, 0)).append(' ').append(odds(3, 1)).toString();
    }

    int type(int letter) { return next().type(letter); }
    int clear() { return next().clear(); }
    int city() { return next().city(); }
    int district(int d, int what) { return next().district(d, what); }
    int citizen(int c, int what) { return next().citizen(c, what); }
    int noise(int i, int what) { return next().noise(i, what); }
    int now(int what) { return next().now(what); }
    int calls(int c, int hours) { return next().calls(c, hours); }
    int hour() { return next().hour(); }
    int undo() { return next().undo(); }
    int asleepIn(int n) { return next().asleepIn(n); }
    int lapse() { return next().lapse(); }
    int callUp(int n, int i) { return next().callUp(n, i); }
    int bears() { return next().bears(); }
    int cart(int from, int to, int v, int what) { return next().cart(from, to, v, what); }
    int drum(int d) { return next().drum(d); }
    int wants(int d) { return next().wants(d); }
    int counted(int i, int many) { return next().counted(i, many); }
    int forget() { return next().forget(); }
    int sham() { return next().sham(); }
    int odds(int p, int what) { return next().odds(p, what); }
    int rate(int kind, int c) { return next().rate(kind, c); }
    int keep(int image) { return next().keep(image); }
    int back(int image) { return next().back(image); }
    int count(int what) { return next().count(what); }
    long trace() { return next().trace(); }
}
