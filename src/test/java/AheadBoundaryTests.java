/** Part 3 of the document, with promises 12 to 18: the first and the last of each answer, and where there is none. */
public final class AheadBoundaryTests extends Boundary {
    private static final String SIX = "c0 20 0 5;c0 20 0 5;c0 20 0 5;c0 20 0 5;c0 20 0 5;c0 20 0 5;";

    public static void main(String[] args) {
        asleepInNoneToEighty();
        asleepInTheOneToCome();
        asleepInAsHoursGoBy();
        asleepInNobody();
        lapseAtOnce();
        lapseInEighty();
        lapseNone();
        lapseByFewerThanQuota();
        callUpOneToThree();
        callUpHourBeyond();
        callUpNone();
        callUpQuotaZero();
        callUpQuotaSix();
        callUpTired();
        callUpBedsWorkNoises();
        callUpHourBehindSeven();
        callUpCalledForNothing();
        callUpFirstRow();
        bearsEightHours();
        bearsNotOneOnly();
        bearsQuotaZero();
        bearsBedLeft();
        bearsWithHimToo();
        bearsNobody();
        cartRefused();
        cartLoudAndDeep();
        cartBothEnds();
        cartToItself();
        cartNoWay();
        cartFewestRoads();
        cartFewestWoken();
        cartOnlyWhoIsAsleep();
        drumRefused();
        drumLoudAndDeep();
        drumNone();
        drumNine();
        drumOfHisDistrict();
        drumAwakeInHisBed();
        wantsNoneToSix();
        wantsWhoCouldLieDown();
        wantsRefused();
        CHECKS.end("AheadBoundaryTests");
    }

    /** "ASLEEP IN so many HOURS (0 .. 80)". */
    private static void asleepInNoneToEighty() {
        Life x = Life.told("c0 20 0 5;");
        x.calls(0, 1);
        due("in -1", x.asleepIn(-1), BAD);
        due("in 0", x.asleepIn(0), 1);
        due("in 1", x.asleepIn(1), 0);
        due("in 7", x.asleepIn(7), 0);
        due("in 8", x.asleepIn(8), 1);
        due("in 79", x.asleepIn(79), 0);
        due("in 80", x.asleepIn(80), 1);
        due("in 81", x.asleepIn(81), BAD);
        due("in 88", x.asleepIn(88), BAD);
        for (int far : FAR_OFF) {
            due("in " + far, x.asleepIn(far), BAD);
        }
        due("(Nothing is changed.)", x.now(1), 0);
    }

    /** "(0: the one to come)": in 0 HOURS it is just what hour() answers. */
    private static void asleepInTheOneToCome() {
        Life x = Life.told("b0 1;c0 3 1 5;c0 9 0 3;c0 9 0 9;n0 1 4;").callAll(255);
        for (int i = 0; i < 20; i++) {
            int ahead = x.asleepIn(0);
            due("the HOUR to come, " + i, x.hour(), ahead);
        }
    }

    /** "who is ASLEEP in that one ..., all being CALLED as they are": all 81 of them, then as they go by. */
    private static void asleepInAsHoursGoBy() {
        Life x = Life.told("d2;b0 2;c0 7 3 5;c0 9 0 3;c0 20 8 9;c1 0 16 5;n0 4 4;n1 7 6;").callAll(255);
        x.pass(3);
        String before = x.seen();
        int[] ahead = new int[81];
        for (int n = 0; n <= 80; n++) {
            ahead[n] = x.asleepIn(n);
        }
        alike("(Nothing is changed.)", x.seen(), before);
        for (int n = 0; n <= 80; n++) {
            due("in " + n, x.hour(), ahead[n]);
        }
    }

    /** ASLEEP IN of nobody. */
    private static void asleepInNobody() {
        Life x = new Life();
        due("nobody, in 0", x.asleepIn(0), 0);
        due("nobody, in 80", x.asleepIn(80), 0);
        due("nobody, in 81", x.asleepIn(81), BAD);
    }

    /** "LAPSE: in how many HOURS (0 .. 80) it LAPSES first": 0 is the one to come. */
    private static void lapseAtOnce() {
        Life x = Life.told("c0 20 0 5;");
        due("nobody is CALLED", x.lapse(), 0);
        x.calls(0, 1);
        due("CALLED for HOUR 0", x.lapse(), 1);
        x.calls(0, 127);
        due("CALLED for HOURS 0 to 6", x.lapse(), 7);
        x.pass(7);
        due("HOUR 7", x.lapse(), 0);
        x.calls(0, 128 + 1);
        due("HOUR 7, then 0", x.lapse(), 2);
        due("no LAPSE is counted", x.now(2), 0);
        due("nobody at all", new Life().lapse(), 0);
    }

    /**
     * "(0 .. 80) it LAPSES first; NONE": in 80 HOURS it is found, in 81 it is not. The city was found by a search with
     * the program; that the first one is the 82nd is shown by the HOURS that go by.
     */
    private static void lapseInEighty() {
        Life x = Life.told("q1;b0 1;c0 19 0 9;c0 9 0 8;c0 8 0 9;");
        x.calls(0, 249);
        x.calls(1, 251);
        x.calls(2, 77);
        due("in 81 HOURS is NONE", x.lapse(), NONE);
        due("nobody is ASLEEP in that one", x.pass(1).asleepIn(80), 0);
        due("in 80 HOURS", x.lapse(), 80);
        x.hour();
        due("in 79 HOURS", x.lapse(), 79);
        x.pass(79);
        due("81 HOURS without one", x.now(2), 0);
        due("the 82nd", x.hour(), 0);
        due("LAPSES", x.now(2), 1);
    }

    /** "NONE": it never does. */
    private static void lapseNone() {
        due("QUOTA 0, nobody", Life.told("q0;").lapse(), NONE);
        due("QUOTA 0", Life.told("q0;c0 9 0 5;").lapse(), NONE);
        // Three by turns: each is ASLEEP for one HOUR of three, or nearly, so that they are TIRED enough again.
        Life x = Life.told("c0 20 0 5;c0 20 0 5;c0 20 0 5;");
        x.calls(0, 1 + 8 + 64);
        x.calls(1, 2 + 16 + 128);
        x.calls(2, 4 + 32);
        due("by turns", x.lapse(), NONE);
    }

    /** "fewer than QUOTA": with as many it does not. */
    private static void lapseByFewerThanQuota() {
        due("two for two", Life.told("q2;c0 9 0 5;c0 9 2 5;").callAll(255).lapse(), 1);
        due("one for two", Life.told("q2;c0 9 0 5;c0 9 1 5;").callAll(255).lapse(), 0);
        due("TIRED by 3 for two HOURS", Life.told("c0 3 0 5;").callAll(255).lapse(), 2);
        due("TIRED by 4 for two HOURS", Life.told("c0 4 0 5;").callAll(255).lapse(), 2);
        due("TIRED by 5 for three", Life.told("c0 5 0 5;").callAll(255).lapse(), 3);
    }

    /** "CALL-UP for n (1 .. 3) HOURS"; "how many (i = -1), the set of HOUR i ... BAD." */
    private static void callUpOneToThree() {
        Life x = Life.told("q1;c0 20 0 5;");
        for (int i = -1; i <= 3; i++) {
            due("n 0", x.callUp(0, i), BAD);
            due("n 4", x.callUp(4, i), BAD);
            due("n -1", x.callUp(-1, i), BAD);
        }
        for (int n = 1; n <= 3; n++) {
            due("how many for " + n, x.callUp(n, -1), n);
            due("i -2", x.callUp(n, -2), BAD);
            due("i far below", x.callUp(n, Integer.MIN_VALUE), BAD);
            for (int i = 0; i < n; i++) {
                due("the set of HOUR " + i + " of " + n, x.callUp(n, i), 1);
            }
        }
        for (int far : FAR_OFF) {
            due("n " + far, x.callUp(far, -1), BAD);
        }
        due("(Nothing is changed.)", x.now(5), 0);
    }

    /** "(-5: not so many)"; BAD is ahead of it, and it is ahead of NONE. */
    private static void callUpHourBeyond() {
        Life some = Life.told("q1;c0 20 0 5;");
        Life none = new Life();
        for (int n = 1; n <= 3; n++) {
            due("the last of " + n, some.callUp(n, n - 1), 1);
            due("one beyond " + n, some.callUp(n, n), NOT_SO_MANY);
            due("two beyond " + n, some.callUp(n, n + 1), NOT_SO_MANY);
            due("far beyond " + n, some.callUp(n, Integer.MAX_VALUE), NOT_SO_MANY);
            due("the last of " + n + ", where there is none", none.callUp(n, n - 1), NONE);
            due("one beyond " + n + ", where there is none", none.callUp(n, n), NOT_SO_MANY);
        }
        due("n 0 is BAD", none.callUp(0, 0), BAD);
        due("n 4 is BAD", none.callUp(4, 4), BAD);
        due("i -2 is BAD", none.callUp(1, -2), BAD);
    }

    /** "NONE": fewer than QUOTA can be ASLEEP in one of them, be it the last. */
    private static void callUpNone() {
        due("nobody", new Life().callUp(1, -1), NONE);
        due("one for two", Life.told("q2;c0 9 0 5;").callUp(1, -1), NONE);
        due("two for two", Life.told("q2;c0 9 0 5;c0 9 0 5;").callUp(1, -1), 2);
        for (int bit = 0; bit < 3; bit++) {
            Life x = Life.told("q1;c0 20 " + (1 << bit) + " 5;");
            for (int n = 1; n <= 3; n++) {
                due("WORK in " + bit + ", for " + n, x.callUp(n, -1), n > bit ? NONE : n);
                due("and the set", x.callUp(n, 0), n > bit ? NONE : 1);
            }
        }
    }

    /** QUOTA 0: nobody is CALLED, and there is a CALL-UP even so. */
    private static void callUpQuotaZero() {
        Life x = Life.told("q0;c0 20 0 5;c0 20 0 5;");
        Life nobody = Life.told("q0;");
        for (int n = 1; n <= 3; n++) {
            due("none in all", x.callUp(n, -1), 0);
            due("none in all, of nobody", nobody.callUp(n, -1), 0);
            for (int i = 0; i < n; i++) {
                due("an empty set", x.callUp(n, i), 0);
                due("an empty set, of nobody", nobody.callUp(n, i), 0);
            }
            due("not so many", x.callUp(n, n), NOT_SO_MANY);
        }
    }

    /** QUOTA 6: all six in each HOUR. */
    private static void callUpQuotaSix() {
        Life x = Life.told("q6;" + SIX);
        due("eighteen", x.callUp(3, -1), 18);
        for (int i = 0; i < 3; i++) {
            due("all of them", x.callUp(3, i), 63);
        }
        due("five BEDS", Life.told("q6;b0 5;" + SIX).callUp(1, -1), NONE);
        due("six of five", Life.told("q6;" + SIX.substring(10)).callUp(1, -1), NONE);
    }

    /** Who is ASLEEP in one of them is less TIRED in the next: 0 is too few, 1 is not. */
    private static void callUpTired() {
        int[] hours = {0, 1, 1, 2, 2, 3, 3};
        for (int tired = 0; tired <= 6; tired++) {
            Life x = Life.told("q1;c0 " + tired + " 0 5;");
            for (int n = 1; n <= 3; n++) {
                due("TIRED by " + tired + ", for " + n, x.callUp(n, -1), n <= hours[tired] ? n : NONE);
            }
        }
        Life y = Life.told("q1;c0 0 0 5;c0 1 0 5;");
        due("who is not TIRED is so in the next", y.callUp(2, 0), 2);
        due("then he", y.callUp(2, 1), 1);
        due("then the other again", y.callUp(3, 2), 2);
    }

    /** As in AN HOUR: WORK, a BED left, no NOISE LOUD by more than DEEP. */
    private static void callUpBedsWorkNoises() {
        due("one BED for two", Life.told("q2;b0 1;c0 9 0 5;c0 9 0 5;").callUp(1, -1), NONE);
        due("two BEDS for two", Life.told("q2;b0 2;c0 9 0 5;c0 9 0 5;").callUp(1, 0), 3);
        due("a BED in each", Life.told("d2;q2;b0 1;b1 1;c0 9 0 5;c0 9 0 5;c1 9 0 5;").callUp(1, 0), 5);
        due("no BED", Life.told("q1;b0 0;c0 9 0 5;").callUp(1, 0), NONE);
        String four = "b0 1;b1 1;b2 1;b3 1;c0 9 0 5;c3 9 0 5;c3 9 0 5;c1 9 0 5;c2 9 0 5;c0 9 0 5;";
        due("a BED in each of four", Life.told("d4;q4;" + four).callUp(1, 0), 1 + 2 + 8 + 16);
        due("four BEDS for five", Life.told("d4;q5;" + four).callUp(1, 0), NONE);
        due("LOUD as DEEP", Life.told("q1;c0 9 0 5;n0 0 5;").callUp(1, 0), 1);
        due("LOUD by 1 more", Life.told("q1;c0 9 0 5;n0 0 6;").callUp(1, 0), NONE);
        due("LOUD in another HOUR", Life.told("q1;c0 9 0 5;n0 1 6;").callUp(1, 0), 1);
        due("LOUD in the second HOUR", Life.told("q1;c0 9 0 5;n0 1 6;").callUp(2, 0), NONE);
        due("LOUD in another DISTRICT", Life.told("d2;q1;c0 9 0 5;n1 0 6;").callUp(1, 0), 1);
        due("the one who has no WORK", Life.told("q1;c0 9 1 5;c0 9 2 5;").callUp(1, 0), 2);
        due("the fewest: not who is woken", Life.told("q1;c0 9 0 4;c0 9 0 5;n0 0 5;").callUp(1, 0), 2);
    }

    /** "from NOW": behind HOUR 7 comes 0. */
    private static void callUpHourBehindSeven() {
        for (int start = 0; start < 8; start++) {
            // One CITIZEN for each of the three HOURS, who has WORK in all others.
            StringBuilder text = new StringBuilder("q1;");
            for (int i = 0; i < 3; i++) {
                text.append("c0 9 ").append(255 - (1 << (start + i) % 8)).append(" 5;");
            }
            Life x = Life.told(text.toString()).pass(start);
            for (int i = 0; i < 3; i++) {
                due("from HOUR " + start + ", HOUR " + i, x.callUp(3, i), 1 << i);
            }
        }
    }

    /** "(what they are CALLED for counts for nothing)". */
    private static void callUpCalledForNothing() {
        Life x = Life.told("q1;c0 9 0 5;c0 9 0 5;");
        x.calls(1, 255);
        due("the first one", x.callUp(1, 0), 1);
        x.calls(0, 255);
        due("only he", x.callUp(3, -1), 3);
        x.callAll(0);
        due("nobody is CALLED", x.callUp(3, 2), 1);
        due("and they are CALLED as before", x.citizen(0, 4), 0);
    }

    /** "of such the first row of sets (HOUR by HOUR the lesser number)". */
    private static void callUpFirstRow() {
        Life x = Life.told("q2;" + SIX);
        due("the least set of two", x.callUp(3, 0), 3);
        due("in the second, too", x.callUp(3, 1), 3);
        due("in the third, too", x.callUp(3, 2), 3);
        Life y = Life.told("q1;c0 1 0 5;c0 1 2 5;c0 9 255 5;");
        due("for one HOUR the first", y.callUp(1, 0), 1);
        due("for two the second, so that the first is TIRED", y.callUp(2, 0), 2);
        due("he is", y.callUp(2, 1), 1);
        Life z = Life.told("q2;c0 1 0 5;c0 1 0 5;c0 1 0 5;c0 1 0 5;");
        due("3, then 12", z.callUp(2, 0), 3);
        due("12", z.callUp(2, 1), 12);
        due("3 again", z.callUp(3, 2), 3);
        Life w = Life.told("q2;c0 1 0 5;c0 20 0 5;c0 20 0 5;");
        due("3, then 6: he was ASLEEP", w.callUp(2, 1), 6);
        due("3", w.callUp(2, 0), 3);
        due("then 3 again: he is TIRED by 1", w.callUp(3, 2), 3);
    }

    /** "it does not LAPSE in the next 8 HOURS": the eighth counts, the ninth does not. */
    private static void bearsEightHours() {
        // TIRED by 15 one is ASLEEP for eight HOURS on end, by 14 for seven, by 20 for ten.
        due("eight HOURS without the other", Life.told("c0 15 0 5;c0 20 0 5;").callAll(255).bears(), 3);
        due("seven HOURS only", Life.told("c0 14 0 5;c0 20 0 5;").callAll(255).bears(), 1);
        Life x = Life.told("c0 15 0 5;c0 0 0 5;");
        x.calls(0, 255);
        due("with all, too: the ninth does not count", x.bears(), 2);
        Life y = Life.told("c0 14 0 5;c0 0 0 5;");
        y.calls(0, 255);
        due("with all, too: the eighth does", y.bears(), 0);
        for (int bit = 0; bit < 8; bit++) {
            Life z = Life.told("c0 20 0 5;c0 20 " + (1 << bit) + " 5;").callAll(255);
            due("the other has WORK in " + bit, z.bears(), 2);
            due("from HOUR 1 on", z.pass(1).bears(), 2);
        }
    }

    /** "without each of whom (alone ...)": one by one, not all of them at once. */
    private static void bearsNotOneOnly() {
        due("any one of three", Life.told("q2;c0 20 0 5;c0 20 0 5;c0 20 0 5;").callAll(255).bears(), 7);
        due("none of three", Life.told("q3;c0 20 0 5;c0 20 0 5;c0 20 0 5;").callAll(255).bears(), 0);
        due("any one of six", Life.told("q5;" + SIX).callAll(255).bears(), 63);
        due("none of six", Life.told("q6;" + SIX).callAll(255).bears(), 0);
    }

    /** QUOTA 0: anybody. */
    private static void bearsQuotaZero() {
        due("anybody", Life.told("q0;c0 1 0 5;c0 0 255 5;").bears(), 3);
        due("all six", Life.told("q0;" + SIX).bears(), 63);
    }

    /** "never lying down": his BED is another one's. */
    private static void bearsBedLeft() {
        Life x = Life.told("b0 1;c0 20 0 5;c0 20 0 5;").callAll(255);
        due("one BED, two who take it", x.bears(), 3);
        Life y = Life.told("b0 1;c0 20 0 5;c0 20 8 5;").callAll(255);
        due("the other has WORK in HOUR 3", y.bears(), 2);
    }

    /** "0, if it does with him, too": though it would not without him, whose BED another one would have. */
    private static void bearsWithHimToo() {
        for (int noisy = 0; noisy < 8; noisy++) {
            String city = "b0 1;c0 20 0 4;c0 20 0 5;n0 " + noisy + " ";
            due("he is woken in " + noisy, Life.told(city + "5;").callAll(255).bears(), 0);
            due("he is not in " + noisy, Life.told(city + "4;").callAll(255).bears(), 3);
        }
    }

    /** BEARS of nobody. */
    private static void bearsNobody() {
        due("nobody, QUOTA 1", new Life().bears(), 0);
        due("nobody, QUOTA 0", Life.told("q0;").bears(), 0);
        Life x = Life.told("c0 20 0 5;c0 20 0 5;").callAll(255);
        String before = x.seen();
        x.bears();
        alike("(Nothing is changed.)", x.seen(), before);
    }

    /** "CART ... LOUD by v (1 .. 9)"; "how many are woken (what = 0), how many ROADS (1) ... BAD", ahead of NONE. */
    private static void cartRefused() {
        for (int n = 1; n <= 4; n++) {
            Life x = Life.told("d" + n + ";");
            int last = n - 1;
            due("from the last", x.cart(last, last, 5, 0), 0);
            due("from -1", x.cart(-1, 0, 5, 0), BAD);
            due("to -1", x.cart(0, -1, 5, 0), BAD);
            due("from " + n, x.cart(n, 0, 5, 0), BAD);
            due("to " + n, x.cart(0, n, 5, 0), BAD);
            due("both", x.cart(n, n, 5, 0), BAD);
            due("v 0", x.cart(last, 0, 0, 0), BAD);
            due("v 1", x.cart(0, 0, 1, 0), 0);
            due("v 9", x.cart(0, 0, 9, 0), 0);
            due("v 10", x.cart(last, 0, 10, 0), BAD);
            due("what -1", x.cart(last, 0, 5, -1), BAD);
            due("what 2", x.cart(last, 0, 5, 2), BAD);
            for (int far : FAR_OFF) {
                due("from " + far, x.cart(far, 0, 5, 0), BAD);
                due("to " + far, x.cart(0, far, 5, 0), BAD);
                due("v " + far, x.cart(0, 0, far, 0), BAD);
                due("what " + far, x.cart(0, 0, 5, far), BAD);
            }
        }
    }

    /** "whose DEEP is less than v": not who is as DEEP. */
    private static void cartLoudAndDeep() {
        for (int deep = 1; deep <= 9; deep++) {
            Life x = Life.told("c0 9 0 " + deep + ";").callAll(255);
            for (int v = 1; v <= 9; v++) {
                due("DEEP " + deep + ", v " + v, x.cart(0, 0, v, 0), deep < v ? 1 : 0);
            }
        }
    }

    /** "those of all DISTRICTS it is in ...; both ends, too". */
    private static void cartBothEnds() {
        Life x = Life.told("d4;e0 1;e1 2;e2 3;c0 9 0 1;c3 9 0 1;c1 9 0 1;c2 9 0 1;");
        due("three ROADS", x.cart(0, 3, 9, 1), 3);
        due("nobody", x.cart(0, 3, 9, 0), 0);
        x.calls(0, 1);
        due("the first end", x.cart(0, 3, 9, 0), 1);
        due("it is the last on the way back", x.cart(3, 0, 9, 0), 1);
        x.calls(1, 1);
        due("both ends", x.cart(0, 3, 9, 0), 2);
        x.calls(2, 1);
        x.calls(3, 1);
        due("all DISTRICTS", x.cart(0, 3, 9, 0), 4);
        due("not those behind the end", x.cart(0, 2, 9, 0), 3);
        Life six = Life.told(SIX).callAll(255);
        due("all six", six.cart(0, 0, 6, 0), 6);
    }

    /** From a DISTRICT to itself: a way of no ROADS, and who is there is woken. */
    private static void cartToItself() {
        Life x = Life.told("d2;e0 1;c0 9 0 1;c1 9 0 1;").callAll(255);
        due("no ROADS", x.cart(0, 0, 9, 1), 0);
        due("one is woken", x.cart(0, 0, 9, 0), 1);
        due("without any ROAD, too", Life.told("d2;").cart(1, 1, 9, 1), 0);
    }

    /** "NONE": no way by ROADS. */
    private static void cartNoWay() {
        Life x = Life.told("d4;e0 1;e2 3;");
        int[][] roads = {{0, 1, NONE, NONE}, {1, 0, NONE, NONE}, {NONE, NONE, 0, 1}, {NONE, NONE, 1, 0}};
        for (int from = 0; from < 4; from++) {
            for (int to = 0; to < 4; to++) {
                due("ROADS from " + from + " to " + to, x.cart(from, to, 9, 1), roads[from][to]);
                due("woken from " + from + " to " + to, x.cart(from, to, 9, 0), roads[from][to] == NONE ? NONE : 0);
            }
        }
        x.tell("d4;e0 1;e2 3;e1 3;");
        due("one ROAD more", x.cart(0, 2, 9, 1), 3);
    }

    /** "of such the fewest ROADS". */
    private static void cartFewestRoads() {
        Life ring = Life.told("d4;e0 1;e1 2;e2 3;e3 0;");
        int[] roads = {0, 1, 2, 1};
        for (int from = 0; from < 4; from++) {
            for (int to = 0; to < 4; to++) {
                due("round from " + from + " to " + to, ring.cart(from, to, 9, 1), roads[(to - from + 4) % 4]);
            }
        }
        due("one is fewer than two", Life.told("d3;e0 1;e1 2;e0 2;").cart(0, 2, 9, 1), 1);
        due("two are fewer than three", Life.told("d4;e0 1;e1 2;e2 3;e1 3;").cart(0, 3, 9, 1), 2);
        Life x = Life.told("d4;e0 1;e1 2;e2 3;e1 3;c1 9 0 1;").callAll(255);
        due("with one woken on both, too", x.cart(0, 3, 9, 1), 2);
    }

    /** "on which the fewest ... are woken", ahead of the ROADS; who is DEEP enough does not count. */
    private static void cartFewestWoken() {
        String city = "d4;e0 1;e1 3;e0 2;e2 3;c1 9 0 4;c1 9 0 4;c2 9 0 6;";
        Life x = Life.told(city).callAll(255);
        due("by 2", x.cart(0, 3, 9, 0), 1);
        due("by 2, LOUD by 7", x.cart(0, 3, 7, 0), 1);
        due("by 2, LOUD by 6", x.cart(0, 3, 6, 0), 0);
        x.calls(0, 0);
        due("by either", x.cart(0, 3, 9, 0), 1);
        x.calls(1, 0);
        due("by 1", x.cart(0, 3, 9, 0), 0);
        due("by two ROADS", x.cart(0, 3, 9, 1), 2);
    }

    /** "who would be ASLEEP in it": in THE HOUR to come, not who is awake, be it in his BED. */
    private static void cartOnlyWhoIsAsleep() {
        Life x = Life.told("b0 3;c0 9 0 3;c0 0 0 3;c0 9 1 3;c0 9 0 1;c0 9 0 3;c0 9 0 3;n0 0 2;").callAll(255);
        due("two of six", x.cart(0, 0, 9, 0), 2);
        x.calls(0, 254);
        due("a BED for the last", x.cart(0, 0, 9, 0), 2);
        x.hour();
        due("three in the HOUR behind it", x.cart(0, 0, 9, 0), 3);
        due("(Nothing is changed.)", x.now(5), 8);
        due("they are ASLEEP even so", x.hour(), 1 + 2 + 4);
    }

    /** "DRUM; NONE. BAD.", BAD ahead of NONE. */
    private static void drumRefused() {
        for (int n = 1; n <= 4; n++) {
            Life x = Life.told("d" + n + ";");
            due("the last", x.drum(n - 1), NONE);
            due("one behind it", x.drum(n), BAD);
            due("-1", x.drum(-1), BAD);
            for (int far : FAR_OFF) {
                due("DISTRICT " + far, x.drum(far), BAD);
            }
        }
    }

    /** "the greatest LOUD ... with which it does not LAPSE": as DEEP as who is needed. */
    private static void drumLoudAndDeep() {
        for (int deep = 1; deep <= 9; deep++) {
            Life x = Life.told("c0 9 0 " + deep + ";").callAll(255);
            due("DEEP " + deep, x.drum(0), deep);
        }
        Life two = Life.told("q1;c0 9 0 3;c0 9 0 7;").callAll(255);
        due("one of two is enough", two.drum(0), 7);
        Life both = Life.told("q2;c0 9 0 3;c0 9 0 7;").callAll(255);
        due("both are needed", both.drum(0), 3);
    }

    /** "NONE: it does by 0, too." */
    private static void drumNone() {
        due("nobody", new Life().drum(0), NONE);
        Life x = Life.told("q2;c0 9 0 9;c0 9 0 9;");
        x.calls(0, 255);
        due("one of two", x.drum(0), NONE);
        x.calls(1, 254);
        due("the other in another HOUR", x.drum(0), NONE);
        x.calls(1, 1);
        due("both", x.drum(0), 9);
        due("a NOISE that there is", Life.told("c0 9 0 3;n0 0 4;").callAll(255).drum(0), NONE);
        due("not LOUD by more", Life.told("c0 9 0 3;n0 0 3;").callAll(255).drum(0), 3);
    }

    /** "(0 .. 9)": 9 where it does not matter. */
    private static void drumNine() {
        due("QUOTA 0", Life.told("q0;c0 9 0 1;").callAll(255).drum(0), 9);
        due("QUOTA 0, nobody", Life.told("q0;").drum(0), 9);
        due("DEEP 9", Life.told("c0 9 0 9;").callAll(255).drum(0), 9);
        due("DEEP 8", Life.told("c0 9 0 8;").callAll(255).drum(0), 8);
    }

    /** "a NOISE more in it": who is of another DISTRICT is not woken. */
    private static void drumOfHisDistrict() {
        Life x = Life.told("d4;q1;c1 9 0 2;").callAll(255);
        int[] loud = {9, 2, 9, 9};
        for (int d = 0; d < 4; d++) {
            due("DRUM in " + d, x.drum(d), loud[d]);
        }
        String before = x.seen();
        x.drum(1);
        alike("(Nothing is changed.)", x.seen(), before);
        due("no NOISE is left", x.noise(0, 0), BAD);
    }

    /** Who is woken by it lies awake, in his BED. */
    private static void drumAwakeInHisBed() {
        due("the other has none", Life.told("b0 1;c0 9 0 2;c0 9 0 9;").callAll(255).drum(0), 2);
        due("the other has one", Life.told("b0 2;c0 9 0 2;c0 9 0 9;").callAll(255).drum(0), 9);
    }

    /** "WANTS of a DISTRICT: the fewest BEDS (0 .. 6)", whatever BEDS there are. */
    private static void wantsNoneToSix() {
        for (int beds = 0; beds <= 6; beds += 3) {
            Life x = Life.told("b0 " + beds + ";" + SIX);
            for (int many = 0; many <= 6; many++) {
                due("BEDS for " + many, x.wants(0), many);
                if (many < 6) {
                    x.calls(many, 1);
                }
            }
        }
        due("nobody", new Life().wants(0), 0);
    }

    /** "nobody there who could lie down has none": CALLED, no WORK, TIRED by 1 at least, of that DISTRICT, in that HOUR. */
    private static void wantsWhoCouldLieDown() {
        Life x = Life.told("d2;c0 1 0 1;c0 0 0 1;c0 9 1 1;c1 9 0 1;c0 9 0 1;n0 0 9;");
        x.callAll(255);
        x.calls(4, 254);
        due("TIRED by 1, though he would be woken", x.wants(0), 1);
        due("the other DISTRICT", x.wants(1), 1);
        x.hour();
        due("in the next HOUR", x.wants(0), 4);
        x.hour();
        due("then who is TIRED still", x.wants(0), 2);
    }

    /** "WANTS. BAD." */
    private static void wantsRefused() {
        for (int n = 1; n <= 4; n++) {
            Life x = Life.told("d" + n + ";");
            due("the last", x.wants(n - 1), 0);
            due("one behind it", x.wants(n), BAD);
            due("-1", x.wants(-1), BAD);
            for (int far : FAR_OFF) {
                due("DISTRICT " + far, x.wants(far), BAD);
            }
        }
    }
}
