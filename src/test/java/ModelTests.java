import java.util.Random;

/** Long mixed runs of calls, each answered by the program and by the plain model; the seeds are fixed. */
public final class ModelTests {
    private static final Checks CHECKS = new Checks();
    private static final int RUNS = 4000;
    private static final int CALLS = 512;

    private SleepCalls program;
    private PlainModel model;
    private final Random random;
    private final int run;
    private int calls = 0;

    private ModelTests(int run) {
        this.run = run;
        this.random = new Random(run * 7919L + 5);
        program = new SleepCalls();
        model = new PlainModel();
    }

    public static void main(String[] args) {
        for (int run = 0; run < RUNS && CHECKS.isRight(); run++) {
            new ModelTests(run).play();
        }
        CHECKS.end("ModelTests");
    }

    private void play() {
        tell(randomCity());
        while (calls < CALLS && CHECKS.isRight()) {
            int dice = random.nextInt(300);
            if (dice == 0 || program.count(2) == 0 && dice < 20) {
                tell(randomCity());
            } else if (dice < 4) {
                tell(spoilt(randomCity()));
            } else if (dice < 90) {
                change();
            } else {
                ask(random.nextInt(22));
            }
        }
        for (int what = -1; what <= 22; what++) {
            ask(what);
        }
    }

    private void due(String call, long got, long want) {
        calls++;
        CHECKS.due("run " + run + ", call " + calls + ": " + call, got, want);
    }

    // ---- texts

    private void tell(String text) {
        due("clear", program.clear(), model.clear());
        for (int i = 0; i < text.length(); i++) {
            int letter = text.charAt(i);
            due("type", program.type(letter), model.type(letter));
        }
        due("city of " + text, program.city(), model.city());
        due("letters", program.count(5), model.count(5));
        seeAll();
    }

    private void seeAll() {
        for (int i = 0; i < 6; i++) {
            due("count " + i, program.count(i), model.count(i));
            due("now " + i, program.now(i), model.now(i));
        }
        for (int d = 0; d < 4; d++) {
            due("beds " + d, program.district(d, 0), model.district(d, 0));
            due("roads " + d, program.district(d, 1), model.district(d, 1));
        }
        for (int i = 0; i < 6; i++) {
            for (int what = 0; what < 6; what++) {
                due("citizen " + i + " " + what, program.citizen(i, what), model.citizen(i, what));
                due("noise " + i + " " + what, program.noise(i, what), model.noise(i, what));
            }
        }
    }

    private int upTo(int most) {
        return random.nextInt(most + 1);
    }

    private String randomCity() {
        StringBuilder text = new StringBuilder();
        int districts = 1 + upTo(3);
        int hours = random.nextBoolean() ? 7 : 1;
        if (districts > 1 || random.nextBoolean()) text.append("d").append(districts).append(";");
        if (upTo(5) > 0) text.append("q").append(random.nextBoolean() ? upTo(2) : upTo(6)).append(";");
        for (int i = districts > 1 ? upTo(5) : 0; i > 0; i--) {
            int a = upTo(districts - 1);
            int b = (a + 1 + upTo(districts - 2)) % districts;
            text.append("e").append(a).append(" ").append(b).append(";");
        }
        for (int i = upTo(3); i > 0; i--) {
            text.append("b").append(upTo(districts - 1)).append(" ").append(upTo(random.nextBoolean() ? 2 : 6)).append(";");
        }
        int noisesAhead = upTo(1);
        int noises = upTo(6);
        for (int i = noisesAhead * noises / 2; i > 0; i--) text.append(randomNoise(districts, hours));
        for (int i = upTo(6); i > 0; i--) {
            int work = random.nextBoolean() ? 0 : random.nextBoolean() ? upTo(255) : upTo(255) & upTo(255);
            text.append("c").append(upTo(districts - 1)).append(" ").append(upTo(random.nextBoolean() ? 3 : 20));
            text.append(" ").append(work).append(" ").append(1 + upTo(8)).append(";");
        }
        for (int i = noises - noisesAhead * noises / 2; i > 0; i--) text.append(randomNoise(districts, hours));
        return text.length() > 200 ? text.substring(0, text.lastIndexOf(";", 199) + 1) : text.toString();
    }

    private String randomNoise(int districts, int hours) {
        return "n" + upTo(districts - 1) + " " + upTo(hours) + " " + (1 + upTo(8)) + ";";
    }

    private String spoilt(String text) {
        String letters = "dqebcn;0123456789 x  ;;" + (char) 9 + (char) 200;
        StringBuilder s = new StringBuilder(text);
        for (int i = 1 + upTo(2); i > 0; i--) {
            char letter = letters.charAt(upTo(letters.length() - 1));
            int place = upTo(s.length());
            int how = upTo(3);
            if (how == 0) s.insert(place, letter);
            else if (how == 1 && place < s.length()) s.setCharAt(place, letter);
            else if (how == 2 && place < s.length()) s.deleteCharAt(place);
            else if (how == 3) s.setLength(place);
        }
        return s.toString();
    }

    // ---- calls

    /** Mostly a number from least to most, now and then one beside or far off. */
    private int number(int least, int most) {
        int dice = random.nextInt(60);
        if (dice == 0) return least - 1;
        if (dice == 1) return most + 1;
        if (dice == 2) return new int[] {Integer.MIN_VALUE, Integer.MAX_VALUE, 1 << 20, -77}[upTo(3)];
        return least + random.nextInt(Math.max(1, most - least + 1));
    }

    private void change() {
        int citizens = program.count(2);
        int dice = random.nextInt(20);
        if (dice < 9) {
            int c = number(0, citizens - 1);
            int hours = random.nextBoolean() ? 255 : number(0, 255);
            due("calls " + c + " " + hours, program.calls(c, hours), model.calls(c, hours));
        } else if (dice < 15) {
            due("hour", program.hour(), model.hour());
        } else if (dice < 17) {
            due("undo", program.undo(), model.undo());
        } else if (dice == 17) {
            int image = number(0, 1);
            due("keep " + image, program.keep(image), model.keep(image));
        } else if (dice == 18) {
            int image = number(0, 1);
            due("back " + image, program.back(image), model.back(image));
        } else {
            countOrForget();
        }
    }

    private void countOrForget() {
        if (upTo(2) == 0) {
            due("forget", program.forget(), model.forget());
            return;
        }
        int i = number(0, 20);
        int many = upTo(2) == 0 ? number(0, 6) : Integer.bitCount(Math.max(0, program.asleepIn(0)));
        due("counted " + i + " " + many, program.counted(i, many), model.counted(i, many));
    }

    private void ask(int what) {
        int districts = program.count(0);
        int citizens = program.count(2);
        int a = number(0, 5);
        int b = number(0, districts - 1);
        int c = number(0, citizens - 1);
        switch (what) {
            case 0: due("district " + b + " " + a, program.district(b, a % 3), model.district(b, a % 3)); break;
            case 1: due("citizen " + c + " " + a, program.citizen(c, a), model.citizen(c, a)); break;
            case 2: due("noise " + a, program.noise(a, c), model.noise(a, c)); break;
            case 3: due("now " + a, program.now(a), model.now(a)); break;
            case 4: case 5: askAsleepIn(); break;
            case 6: case 7: due("lapse", program.lapse(), model.lapse()); break;
            case 8: case 9: askCallUp(); break;
            case 10: case 11: due("bears", program.bears(), model.bears()); break;
            case 12: case 13: askCart(b); break;
            case 14: due("drum " + b, program.drum(b), model.drum(b)); break;
            case 15: due("wants " + b, program.wants(b), model.wants(b)); break;
            case 16: due("sham", program.sham(), model.sham()); break;
            case 17: case 18: askOdds(); break;
            case 19: case 20: due("rate " + a + " " + c, program.rate(a, c), model.rate(a, c)); break;
            case 21: due("trace", program.trace(), model.trace()); break;
            case 22: seeAll(); break;
            default: due("count " + a, program.count(a), model.count(a)); break;
        }
    }

    private void askAsleepIn() {
        int n = number(0, random.nextBoolean() ? 80 : 9);
        due("asleepIn " + n, program.asleepIn(n), model.asleepIn(n));
    }

    /** The model tries all rows of sets, so three hours of many citizens are asked for now and then only. */
    private void askCallUp() {
        int n = number(1, 3);
        int i = number(-1, 3);
        if (n == 3 && program.count(2) > 4 && random.nextInt(60) != 0) {
            n = 2;
        }
        due("callUp " + n + " " + i, program.callUp(n, i), model.callUp(n, i));
    }

    private void askCart(int from) {
        int to = number(0, program.count(0) - 1);
        int v = number(1, 9);
        int what = number(0, 1);
        due("cart " + from + " " + to + " " + v + " " + what, program.cart(from, to, v, what), model.cart(from, to, v, what));
    }

    private void askOdds() {
        int p = number(0, 10);
        int what = number(0, 1);
        due("odds " + p + " " + what, program.odds(p, what), model.odds(p, what));
    }
}
