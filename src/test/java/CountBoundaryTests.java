/** Part 3 of the document, with promises 19 to 22: COUNTS, SHAM and ODDS at their first and last. */
public final class CountBoundaryTests extends Boundary {
    private static final String SIX = "c0 20 0 5;c0 20 0 5;c0 20 0 5;c0 20 0 5;c0 20 0 5;c0 20 0 5;";

    public static void main(String[] args) {
        countedHours();
        countedMany();
        countsSixAtMost();
        countsForgotten();
        countsOfNobody();
        shamNoCounts();
        shamHourZero();
        shamHourTwenty();
        shamFromTheBeginning();
        shamCalledAsNow();
        shamAllCounts();
        shamJustOne();
        shamInHisBed();
        shamNeverAsleep();
        shamNoneToSix();
        oddsRefused();
        oddsByNoneAndTen();
        oddsNoNoise();
        oddsOfTheHour();
        oddsLoudAndDeep();
        oddsSixNoises();
        oddsEachForItself();
        oddsInLeastTerms();
        oddsQuota();
        oddsAwakeInHisBed();
        CHECKS.end("CountBoundaryTests");
    }

    /** "in the i-th HOUR from the beginning (0 .. 20)". */
    private static void countedHours() {
        Life x = new Life();
        due("HOUR -1", x.counted(-1, 0), BAD);
        due("HOUR 21", x.counted(21, 0), BAD);
        for (int far : FAR_OFF) {
            due("HOUR " + far, x.counted(far, 0), BAD);
        }
        due("none of them is a COUNT", x.count(4), 0);
        for (int i = 0; i <= 20; i++) {
            due("HOUR " + i, x.counted(i, 0), 1);
            x.forget();
        }
    }

    /** "so many (0 .. 6) were ASLEEP". */
    private static void countedMany() {
        Life x = new Life();
        due("many -1", x.counted(0, -1), BAD);
        due("many 7", x.counted(0, 7), BAD);
        for (int far : FAR_OFF) {
            due("many " + far, x.counted(0, far), BAD);
        }
        due("none of them is a COUNT", x.count(4), 0);
        for (int many = 0; many <= 6; many++) {
            due("many " + many + ", more than there are", x.counted(20, many), 1);
            x.forget();
        }
    }

    /** "COUNTS (6 at most)"; "A COUNT: how many. BAD; FULL." */
    private static void countsSixAtMost() {
        Life x = new Life();
        for (int i = 1; i <= 6; i++) {
            due("COUNT " + i, x.counted(i, i), i);
            due("so many are there", x.count(4), i);
        }
        due("the seventh", x.counted(7, 0), FULL);
        due("one that there is", x.counted(1, 1), FULL);
        due("BAD ahead of FULL, by the HOUR", x.counted(21, 0), BAD);
        due("BAD ahead of FULL, by how many", x.counted(0, 7), BAD);
        due("BAD ahead of FULL, below", x.counted(-1, -1), BAD);
        due("six still", x.count(4), 6);
        due("six are forgotten", x.forget(), 6);
        due("no more FULL", x.counted(7, 0), 1);
        Life again = new Life();
        due("the same HOUR", again.counted(3, 1), 1);
        due("is one COUNT more", again.counted(3, 1), 2);
    }

    /** "No COUNTS: how many there were." */
    private static void countsForgotten() {
        for (int many = 0; many <= 6; many++) {
            Life x = new Life();
            for (int i = 0; i < many; i++) {
                x.counted(0, 0);
            }
            due("so many", x.forget(), many);
            due("none", x.count(4), 0);
            due("none any more", x.forget(), 0);
        }
    }

    /** SHAM of nobody: nobody is one, whatever was counted. */
    private static void countsOfNobody() {
        Life x = new Life();
        due("no COUNTS", x.sham(), 0);
        x.counted(0, 0);
        due("and a COUNT that is so", x.sham(), 0);
    }

    /** "makes all COUNTS so": where there are none, anybody. */
    private static void shamNoCounts() {
        due("one", Life.told("c0 9 0 5;").sham(), 1);
        due("six", Life.told(SIX).sham(), 63);
        Life x = Life.told("c0 9 0 5;c0 9 0 5;").callAll(255);
        x.counted(0, 0);
        due("nobody is it", x.sham(), 0);
        x.forget();
        due("forgotten: anybody", x.sham(), 3);
    }

    /** "the i-th HOUR (0": the first one. */
    private static void shamHourZero() {
        Life x = Life.told("c0 9 0 5;c0 9 0 5;");
        x.calls(0, 1);
        x.counted(0, 0);
        due("he is not ASLEEP in the first HOUR", x.sham(), 1);
        x.forget();
        x.counted(0, 1);
        due("he is", x.sham(), 2);
        x.forget();
        x.counted(1, 0);
        due("the second HOUR tells nothing", x.sham(), 3);
    }

    /** "(0 .. 20)": the last one, HOUR 4 of its DAY. */
    private static void shamHourTwenty() {
        Life x = Life.told("c0 9 0 5;c0 9 0 5;");
        x.calls(0, 16);
        x.counted(20, 0);
        due("he is not ASLEEP in it", x.sham(), 1);
        x.forget();
        x.counted(20, 1);
        due("he is", x.sham(), 2);
        x.forget();
        x.counted(19, 0);
        due("the one ahead of it tells nothing", x.sham(), 3);
        x.counted(20, 0);
        due("the later COUNT does", x.sham(), 1);
    }

    /** "from the beginning": as told, whatever HOUR it is and however TIRED they are NOW. */
    private static void shamFromTheBeginning() {
        Life x = Life.told("c0 1 0 5;c0 0 0 5;").callAll(255);
        x.counted(0, 1);
        x.counted(1, 1);
        due("only one can be TIRED at a time", x.sham(), 0);
        x.forget();
        x.counted(0, 0);
        x.counted(1, 1);
        due("the first is it", x.sham(), 1);
        x.pass(3);
        due("three HOURS later, too", x.sham(), 1);
        x.keep(0);
        x.back(0);
        due("by an IMAGE, too", x.sham(), 1);
        due("(Nothing is changed.)", x.now(1), 3);
    }

    /** "all being CALLED as they are NOW". */
    private static void shamCalledAsNow() {
        Life x = Life.told("c0 9 0 5;c0 9 0 5;");
        x.counted(2, 1);
        due("nobody is CALLED", x.sham(), 0);
        x.calls(0, 4);
        due("one is", x.sham(), 2);
        x.calls(1, 4);
        due("both are", x.sham(), 3);
        x.pass(3);
        x.calls(0, 0);
        due("one no more, though THE HOUR has gone by", x.sham(), 1);
        x.undo();
        due("UNDONE", x.sham(), 3);
    }

    /** "makes ALL COUNTS so": the first, the last, two of one HOUR. */
    private static void shamAllCounts() {
        Life x = Life.told("c0 20 0 5;c0 20 0 5;c0 20 0 5;");
        x.calls(0, 1);
        x.calls(1, 2);
        x.calls(2, 4);
        x.counted(0, 1);
        x.counted(1, 1);
        due("the third", x.sham(), 4);
        x.counted(2, 0);
        due("still he", x.sham(), 4);
        x.counted(8, 1);
        x.counted(9, 1);
        due("on the next DAY", x.sham(), 4);
        x.counted(10, 1);
        due("the sixth COUNT is not so", x.sham(), 0);
        x.forget();
        x.counted(2, 1);
        x.counted(0, 0);
        due("in any order", x.sham(), 1);
        x.counted(0, 1);
        due("two of one HOUR, unlike", x.sham(), 0);
        x.forget();
        x.counted(0, 0);
        x.counted(0, 0);
        due("two of one HOUR, alike", x.sham(), 1);
    }

    /** "of whom just one": never two at once. */
    private static void shamJustOne() {
        Life x = Life.told("c0 9 0 5;c0 9 0 5;c0 9 0 5;").callAll(255);
        x.counted(0, 2);
        due("any one of three", x.sham(), 7);
        x.forget();
        x.counted(0, 1);
        due("two would have to be it", x.sham(), 0);
        x.forget();
        x.counted(0, 3);
        due("nobody would have to be", x.sham(), 0);
    }

    /** "(but in his BED, if he lies down)". */
    private static void shamInHisBed() {
        Life x = Life.told("b0 1;c0 9 0 5;c0 9 0 5;").callAll(1);
        x.counted(0, 0);
        due("his BED is no other's", x.sham(), 1);
        x.forget();
        x.counted(0, 1);
        due("who has no BED may be it", x.sham(), 2);
        Life y = Life.told("b0 1;c0 9 1 5;c0 9 0 5;").callAll(1);
        y.counted(0, 1);
        due("he does not lie down, at WORK", y.sham(), 1);
    }

    /** "never ASLEEP": he is TIRED by 1 more each HOUR, so he lies down in each. */
    private static void shamNeverAsleep() {
        Life x = Life.told("b0 1;c0 1 0 5;c0 9 0 5;").callAll(255);
        x.counted(1, 0);
        due("he has the BED in the second HOUR, too", x.sham(), 3);
        x.counted(0, 0);
        due("and in the first", x.sham(), 1);
        x.counted(20, 0);
        due("and in the last", x.sham(), 1);
    }

    /** "so many (0 .. 6)": SHAM by each. */
    private static void shamNoneToSix() {
        Life x = Life.told(SIX);
        for (int many = 0; many <= 6; many++) {
            x.forget();
            x.counted(0, many);
            int callers = (1 << many) - 1;
            due(many + " of " + many, x.sham(), 63 & ~callers);
            if (many > 0) {
                x.forget();
                x.counted(0, many - 1);
                due("one fewer than " + many, x.sham(), callers);
            }
            if (many < 6) {
                x.calls(many, 1);
            }
        }
        x.forget();
        x.counted(0, 6);
        due("six of six: nobody", x.sham(), 0);
        x.forget();
        x.counted(0, 5);
        due("five of six: anybody", x.sham(), 63);
    }

    private static void oddsDue(String call, Life x, int p, int upper, int lower) {
        due(call + ", upper", x.odds(p, 0), upper);
        due(call + ", lower", x.odds(p, 1), lower);
    }

    /** "ODDS by p (0 .. 10)"; "upper (what = 0), lower number (1) ... BAD." */
    private static void oddsRefused() {
        Life x = new Life();
        for (int p = 0; p <= 10; p++) {
            oddsDue("p " + p, x, p, 0, 1);
            due("what -1", x.odds(p, -1), BAD);
            due("what 2", x.odds(p, 2), BAD);
        }
        due("p -1", x.odds(-1, 0), BAD);
        due("p -1, lower", x.odds(-1, 1), BAD);
        due("p 11", x.odds(11, 0), BAD);
        due("p 11, lower", x.odds(11, 1), BAD);
        for (int far : FAR_OFF) {
            due("p " + far, x.odds(far, 0), BAD);
            due("what " + far, x.odds(5, far), BAD);
        }
    }

    /** By 0 no NOISE is there, by 10 each is. */
    private static void oddsByNoneAndTen() {
        Life x = Life.told("c0 9 0 5;n0 0 6;n0 0 9;").callAll(255);
        oddsDue("none is there", x, 0, 1, 1);
        oddsDue("both are", x, 10, 0, 1);
        Life y = Life.told("c0 9 0 5;n0 0 5;n0 0 1;").callAll(255);
        oddsDue("none is there", y, 0, 1, 1);
        oddsDue("both are, and wake nobody", y, 10, 1, 1);
        Life z = Life.told("c0 9 1 5;n0 0 5;n0 0 1;").callAll(255);
        oddsDue("it LAPSES without any", z, 0, 0, 1);
        oddsDue("and with both", z, 10, 0, 1);
    }

    /** No NOISE of THE HOUR to come: 1 of 1, or 0 of 1. */
    private static void oddsNoNoise() {
        Life quiet = Life.told("c0 9 0 5;").callAll(255);
        Life lapsing = Life.told("c0 9 0 5;");
        for (int p = 0; p <= 10; p++) {
            oddsDue("it does not LAPSE, by " + p, quiet, p, 1, 1);
            oddsDue("it does, by " + p, lapsing, p, 0, 1);
        }
    }

    /** "each NOISE of THE HOUR to come": of no other HOUR, HOUR 7 and the 0 behind it among them. */
    private static void oddsOfTheHour() {
        Life x = Life.told("c0 20 0 5;n0 7 6;n0 0 6;n0 0 6;").callAll(255);
        oddsDue("two in HOUR 0", x, 1, 81, 100);
        x.hour();
        oddsDue("none in HOUR 1", x, 1, 1, 1);
        x.pass(6);
        oddsDue("one in HOUR 7", x, 1, 9, 10);
        x.callAll(0).pass(1);
        oddsDue("it LAPSES in HOUR 0", x, 1, 0, 1);
        x.callAll(255);
        oddsDue("two in HOUR 0 again", x, 1, 81, 100);
        due("(Nothing is changed.)", x.now(1), 0);
    }

    /** A NOISE LOUD as DEEP, or of another DISTRICT, is there or not: nobody is woken. */
    private static void oddsLoudAndDeep() {
        oddsDue("LOUD as DEEP", Life.told("c0 9 0 5;n0 0 5;").callAll(255), 3, 1, 1);
        oddsDue("LOUD by 1 more", Life.told("c0 9 0 5;n0 0 6;").callAll(255), 3, 7, 10);
        oddsDue("of another DISTRICT", Life.told("d2;c0 9 0 5;n1 0 9;").callAll(255), 3, 1, 1);
        oddsDue("of both", Life.told("d2;c0 9 0 5;n1 0 9;n0 0 9;").callAll(255), 3, 7, 10);
    }

    /** "NOISES (6 at most)": by six of them the lower number is a million at most. */
    private static void oddsSixNoises() {
        Life x = Life.told("c0 9 0 1;n0 0 9;n0 0 9;n0 0 9;n0 0 9;n0 0 9;n0 0 9;").callAll(255);
        oddsDue("by 0", x, 0, 1, 1);
        oddsDue("by 1", x, 1, 531441, 1000000);
        oddsDue("by 2", x, 2, 4096, 15625);
        oddsDue("by 3", x, 3, 117649, 1000000);
        oddsDue("by 4", x, 4, 729, 15625);
        oddsDue("by 5", x, 5, 1, 64);
        oddsDue("by 6", x, 6, 64, 15625);
        oddsDue("by 7", x, 7, 729, 1000000);
        oddsDue("by 8", x, 8, 1, 15625);
        oddsDue("by 9", x, 9, 1, 1000000);
        oddsDue("by 10", x, 10, 0, 1);
    }

    /** "each for itself": two of them wake one each, so one of two ASLEEP is left by either. */
    private static void oddsEachForItself() {
        String city = "d2;c0 9 0 5;c1 9 0 5;n0 0 6;n1 0 6;";
        oddsDue("not both, by 3", Life.told(city).callAll(255), 3, 91, 100);
        oddsDue("not both, by 9", Life.told(city).callAll(255), 9, 19, 100);
        oddsDue("neither, by 3", Life.told(city + "q2;").callAll(255), 3, 49, 100);
        oddsDue("neither, by 9", Life.told(city + "q2;").callAll(255), 9, 1, 100);
    }

    /** "a fraction"; "in least terms": by 2 alone, by 5 alone, by both, by neither. */
    private static void oddsInLeastTerms() {
        Life one = Life.told("c0 9 0 5;n0 0 6;").callAll(255);
        int[] upper = {1, 9, 4, 7, 3, 1, 2, 3, 1, 1, 0};
        int[] lower = {1, 10, 5, 10, 5, 2, 5, 10, 5, 10, 1};
        for (int p = 0; p <= 10; p++) {
            oddsDue("one NOISE by " + p, one, p, upper[p], lower[p]);
        }
        Life two = Life.told("c0 9 0 5;n0 0 6;n0 0 6;").callAll(255);
        oddsDue("two by 5", two, 5, 1, 4);
        oddsDue("two by 8", two, 8, 1, 25);
        oddsDue("two by 6", two, 6, 4, 25);
        oddsDue("two by 7", two, 7, 9, 100);
    }

    /** "that it does not LAPSE": QUOTA 0, and as many as there are. */
    private static void oddsQuota() {
        oddsDue("QUOTA 0", Life.told("q0;c0 9 0 1;n0 0 9;").callAll(255), 10, 1, 1);
        oddsDue("QUOTA 0, nobody", Life.told("q0;n0 0 9;"), 5, 1, 1);
        oddsDue("one of two is woken", Life.told("q1;c0 9 0 1;c0 9 0 9;n0 0 9;").callAll(255), 5, 1, 1);
        oddsDue("both are needed", Life.told("q2;c0 9 0 1;c0 9 0 9;n0 0 9;").callAll(255), 5, 1, 2);
        oddsDue("three are needed", Life.told("q3;c0 9 0 1;c0 9 0 9;n0 0 9;").callAll(255), 5, 0, 1);
    }

    /** Who is woken lies awake, in his BED. */
    private static void oddsAwakeInHisBed() {
        oddsDue("one BED", Life.told("b0 1;c0 9 0 1;c0 9 0 9;n0 0 9;").callAll(255), 1, 9, 10);
        oddsDue("two BEDS", Life.told("b0 2;c0 9 0 1;c0 9 0 9;n0 0 9;").callAll(255), 1, 1, 1);
    }
}
