/** Part 2 of the document, with promises 9 to 11: the HOUR and the DAY, who lies down, who is ASLEEP, what is UNDONE. */
public final class HourBoundaryTests extends Boundary {
    public static void main(String[] args) {
        hourBehindSeven();
        hoursAreBits();
        workIsBits();
        calledNoneAtFirst();
        callsRefused();
        callsAnswerWhatWas();
        calledOnly();
        workOnly();
        tiredByOne();
        lastBed();
        bedsOfHisDistrict();
        bedsAreTakenInOrder();
        noBedForWhoCantLieDown();
        loudAndDeepAlike();
        noiseOfDistrictAndHour();
        noisesAreNotAdded();
        awakeInHisBed();
        asleepTwoLess();
        othersOneMore();
        lapsesBelowQuota();
        quotaZero();
        quotaSix();
        lapsesAreCounted();
        sleptAreHours();
        hourAnswersBits();
        hourOfNobody();
        undoNone();
        undoTenAndEleven();
        undoTenHours();
        undoMixed();
        undoBringsAllBack();
        undoOverTheDay();
        undoRefusedAreNone();
        undoNothingElse();
        dayNinetyNineIsFarOff();
        CHECKS.end("HourBoundaryTests");
    }

    /** "THE HOUR (0 at first; behind 7 it is 0, and the DAY 1 more". */
    private static void hourBehindSeven() {
        Life x = new Life();
        for (int i = 0; i <= 24; i++) {
            due("THE HOUR, " + i + " gone by", x.now(1), i % 8);
            due("the DAY, " + i + " gone by", x.now(0), i / 8);
            x.hour();
        }
    }

    /** "CALLED: by each CITIZEN for which HOURS (bits": each of the eight, on two DAYS. */
    private static void hoursAreBits() {
        for (int bit = 0; bit < 8; bit++) {
            Life x = Life.told("c0 9 0 5;");
            x.calls(0, 1 << bit);
            for (int i = 0; i < 16; i++) {
                due("CALLED for " + bit + ", HOUR " + i, x.hour(), i % 8 == bit ? 1 : 0);
            }
        }
    }

    /** "has no WORK in it": each of the eight HOURS, on two DAYS. */
    private static void workIsBits() {
        for (int bit = 0; bit < 8; bit++) {
            Life x = Life.told("c0 20 " + (255 - (1 << bit)) + " 5;");
            x.calls(0, 255);
            for (int i = 0; i < 16; i++) {
                due("no WORK in " + bit + ", HOUR " + i, x.hour(), i % 8 == bit ? 1 : 0);
            }
        }
    }

    /** "CALLED ... none at first". */
    private static void calledNoneAtFirst() {
        Life x = Life.told("c0 20 0 9;c0 20 0 9;");
        due("CALLED for none", x.citizen(0, 4), 0);
        due("the other, too", x.citizen(1, 4), 0);
        for (int i = 0; i < 8; i++) {
            due("nobody is CALLED", x.hour(), 0);
        }
    }

    /** "CALLED for HOURS (bits): for which he was. BAD." */
    private static void callsRefused() {
        Life x = Life.told("c0 9 0 5;c0 9 0 5;");
        x.calls(0, 255);
        x.calls(1, 254);
        due("HOURS -1", x.calls(0, -1), BAD);
        due("HOURS 256", x.calls(0, 256), BAD);
        due("HOURS 257", x.calls(1, 257), BAD);
        due("CITIZEN -1", x.calls(-1, 1), BAD);
        due("CITIZEN 2 of 2", x.calls(2, 1), BAD);
        for (int far : FAR_OFF) {
            due("HOURS " + far, x.calls(0, far), BAD);
            due("CITIZEN " + far, x.calls(far, 1), BAD);
        }
        due("CALLED as before", x.citizen(0, 4), 255);
        due("the last, too", x.citizen(1, 4), 254);
        due("nothing more to be UNDONE", x.now(5), 2);
        due("nobody at all", new Life().calls(0, 0), BAD);
        Life six = Life.told("c0 1 0 5;c0 1 0 5;c0 1 0 5;c0 1 0 5;c0 1 0 5;c0 1 0 5;");
        due("the sixth", six.calls(5, 7), 0);
        due("the seventh", six.calls(6, 7), BAD);
    }

    /** "for which he was": none, all, as before; his own. */
    private static void callsAnswerWhatWas() {
        Life x = Life.told("c0 9 0 5;c0 9 0 5;");
        due("none", x.calls(0, 0), 0);
        due("none still", x.calls(0, 255), 0);
        due("all", x.calls(0, 255), 255);
        due("all still", x.calls(0, 1), 255);
        due("the other's", x.calls(1, 128), 0);
        due("one", x.calls(0, 0), 1);
        due("the last HOUR", x.calls(1, 0), 128);
    }

    /** "who is CALLED for it ... lies down": in that HOUR and in no other. */
    private static void calledOnly() {
        Life x = Life.told("c0 9 0 5;c0 9 0 5;");
        x.calls(0, 1);
        x.calls(1, 254);
        due("one is CALLED for HOUR 0", x.hour(), 1);
        due("the other for HOUR 1", x.hour(), 2);
    }

    /** "has no WORK in it". */
    private static void workOnly() {
        Life x = Life.told("c0 9 1 5;c0 9 254 5;").callAll(255);
        due("one has WORK in HOUR 0", x.hour(), 2);
        due("the other in HOUR 1", x.hour(), 1);
    }

    /** "is TIRED by 1 at least". */
    private static void tiredByOne() {
        Life x = Life.told("c0 0 0 5;c0 1 0 5;").callAll(255);
        due("0 is too few", x.hour(), 2);
        due("he is TIRED by 1 then", x.citizen(0, 1), 1);
        due("the other no more", x.citizen(1, 1), 0);
        due("so they change places", x.hour(), 1);
    }

    /** "if there is a BED left in his DISTRICT": as many as BEDS, not one more. */
    private static void lastBed() {
        int[] asleep = {0, 1, 3, 7, 15, 31, 63};
        for (int beds = 0; beds <= 6; beds++) {
            Life x = Life.told("b0 " + beds + ";c0 9 0 5;c0 9 0 5;c0 9 0 5;c0 9 0 5;c0 9 0 5;c0 9 0 5;").callAll(255);
            due(beds + " BEDS for six", x.hour(), asleep[beds]);
        }
    }

    /** "a BED left in HIS DISTRICT": those of another one are not his. */
    private static void bedsOfHisDistrict() {
        Life x = Life.told("d4;b0 0;b1 1;b2 0;b3 2;c0 9 0 5;c1 9 0 5;c1 9 0 5;c3 9 0 5;c3 9 0 5;c2 9 0 5;").callAll(255);
        due("each by the BEDS of his own", x.hour(), 2 + 8 + 16);
    }

    /** "CITIZEN by CITIZEN": the first of them has the BED, whoever is more TIRED or DEEP. */
    private static void bedsAreTakenInOrder() {
        Life x = Life.told("b0 1;c0 2 0 1;c0 20 0 9;c0 20 0 9;").callAll(255);
        due("the first", x.hour(), 1);
        due("the second, when the first is not TIRED", x.hour(), 2);
        due("the first again", x.hour(), 1);
    }

    /** Only who lies down has a BED: not who is not CALLED, at WORK, not TIRED. */
    private static void noBedForWhoCantLieDown() {
        Life x = Life.told("b0 1;c0 9 0 5;c0 9 1 5;c0 0 0 5;c0 9 0 5;c0 9 0 5;");
        x.callAll(255);
        x.calls(0, 254);
        due("the BED is left for the fourth", x.hour(), 8);
        due("the first is CALLED now", x.hour(), 1);
    }

    /** "he is ASLEEP, if no NOISE ... is LOUD by more than DEEP". */
    private static void loudAndDeepAlike() {
        for (int deep = 1; deep <= 9; deep++) {
            for (int loud = 1; loud <= 9; loud++) {
                Life x = Life.told("c0 9 0 " + deep + ";n0 0 " + loud + ";").callAll(255);
                due("DEEP " + deep + ", LOUD " + loud, x.hour(), loud > deep ? 0 : 1);
                due("it LAPSES by that", x.now(2), loud > deep ? 1 : 0);
            }
        }
    }

    /** "no NOISE of that DISTRICT and HOUR": one of another HOUR or DISTRICT wakes nobody. */
    private static void noiseOfDistrictAndHour() {
        for (int noisy = 0; noisy < 8; noisy++) {
            Life x = Life.told("d2;c0 20 0 8;c1 20 0 8;n1 " + noisy + " 9;").callAll(255);
            for (int i = 0; i < 8; i++) {
                due("a NOISE in " + noisy + ", HOUR " + i, x.hour(), i == noisy ? 1 : 3);
            }
            x.callAll(1 << noisy);
            x.pass(noisy);
            due("on the next DAY, too", x.hour(), 1);
        }
    }

    /** "no NOISE ... is LOUD by more": one by one, and any of them. */
    private static void noisesAreNotAdded() {
        due("two of 5", Life.told("c0 9 0 5;n0 0 5;n0 0 5;").callAll(1).hour(), 1);
        due("the first is 6", Life.told("c0 9 0 5;n0 0 6;n0 0 5;").callAll(1).hour(), 0);
        due("the last is 6", Life.told("c0 9 0 5;n0 0 5;n0 0 1;n0 0 1;n0 0 1;n0 0 1;n0 0 6;").callAll(1).hour(), 0);
        due("told ahead of him", Life.told("n0 0 6;c0 9 0 5;").callAll(1).hour(), 0);
    }

    /** "(else he lies awake, in his BED)". */
    private static void awakeInHisBed() {
        Life x = Life.told("b0 1;c0 9 0 4;c0 9 0 9;n0 0 5;").callAll(255);
        due("the BED is his", x.hour(), 0);
        due("he is not ASLEEP", x.citizen(0, 1), 10);
        due("nor is the other", x.citizen(1, 1), 10);
        due("nobody SLEPT", x.citizen(0, 5) + x.citizen(1, 5), 0);
        Life two = Life.told("b0 2;c0 9 0 4;c0 9 0 9;n0 0 5;").callAll(255);
        due("a BED more", two.hour(), 2);
    }

    /** "Who is ASLEEP is TIRED by 2 less (0 at least)". */
    private static void asleepTwoLess() {
        for (int tired = 1; tired <= 20; tired++) {
            Life x = Life.told("c0 " + tired + " 0 5;").callAll(1);
            due("ASLEEP", x.hour(), 1);
            due("2 less than " + tired, x.citizen(0, 1), tired == 1 ? 0 : tired - 2);
        }
    }

    /** "all others by 1 more (20 at most)": whoever is not CALLED, at WORK, without a BED, awake in it. */
    private static void othersOneMore() {
        for (int tired = 0; tired <= 20; tired++) {
            String t = " " + tired + " ";
            Life x = Life.told("d3;b1 0;c0" + t + "0 5;c0" + t + "1 5;c1" + t + "0 5;c2" + t + "0 5;n2 0 6;");
            x.callAll(255);
            x.calls(0, 254);
            due("nobody is ASLEEP", x.hour(), 0);
            for (int c = 0; c < 4; c++) {
                due("CITIZEN " + c + ", 1 more than " + tired, x.citizen(c, 1), tired == 20 ? 20 : tired + 1);
                due("CITIZEN " + c + " has not SLEPT", x.citizen(c, 5), 0);
            }
        }
        Life two = Life.told("c0 19 0 5;").pass(2);
        due("20 at most, by two HOURS", two.citizen(0, 1), 20);
    }

    /** "It LAPSES, if fewer than QUOTA are ASLEEP": one fewer, as many, one more. */
    private static void lapsesBelowQuota() {
        for (int quota = 0; quota <= 6; quota++) {
            for (int asleep = 0; asleep <= 6; asleep++) {
                StringBuilder text = new StringBuilder("q" + quota + ";");
                for (int c = 0; c < 6; c++) {
                    text.append(c < asleep ? "c0 9 0 5;" : "c0 9 1 5;");
                }
                Life x = Life.told(text.toString()).callAll(1);
                due("so many are ASLEEP", Integer.bitCount(x.hour()), asleep);
                due("QUOTA " + quota + ", ASLEEP " + asleep, x.now(2), asleep < quota ? 1 : 0);
            }
        }
    }

    /** "QUOTA (0 .. 6": by 0 it never LAPSES. */
    private static void quotaZero() {
        Life x = Life.told("q0;").pass(20);
        due("nobody, and it does not LAPSE", x.now(2), 0);
        Life y = Life.told("q0;c0 9 255 5;").pass(20);
        due("nobody ASLEEP, and it does not", y.now(2), 0);
    }

    /** "QUOTA (0 .. 6": by 6 it does with five. */
    private static void quotaSix() {
        Life five = Life.told("q6;c0 9 0 5;c0 9 0 5;c0 9 0 5;c0 9 0 5;c0 9 0 5;").callAll(255);
        due("all five", five.hour(), 31);
        due("it LAPSES", five.now(2), 1);
        Life six = Life.told("q6;c0 9 0 5;c0 9 0 5;c0 9 0 5;c0 9 0 5;c0 9 0 5;c0 9 0 5;").callAll(255);
        due("all six", six.hour(), 63);
        due("it does not", six.now(2), 0);
    }

    /** "LAPSES are counted": each HOUR that does, no other. */
    private static void lapsesAreCounted() {
        Life x = Life.told("c0 20 0 5;");
        x.calls(0, 2 + 8);
        int[] lapses = {1, 1, 2, 2, 3, 4, 5, 6, 7, 7};
        for (int i = 0; i < lapses.length; i++) {
            x.hour();
            due("LAPSES, HOUR " + i, x.now(2), lapses[i]);
        }
    }

    /** "SLEPT: how many HOURS of each." */
    private static void sleptAreHours() {
        Life x = Life.told("c0 20 0 5;c0 20 0 5;c0 20 0 5;");
        x.calls(0, 255);
        x.calls(1, 1);
        x.pass(9);
        due("each HOUR", x.citizen(0, 5), 9);
        due("HOUR 0, on two DAYS", x.citizen(1, 5), 2);
        due("none", x.citizen(2, 5), 0);
        due("10 in all", x.pass(1).citizen(0, 5), 10);
        due("no more, not TIRED", x.pass(1).citizen(0, 5), 10);
        due("and one more", x.pass(1).citizen(0, 5), 11);
    }

    /** "AN HOUR: who is ASLEEP in it, as bits." */
    private static void hourAnswersBits() {
        String six = "c0 20 0 5;c0 20 0 5;c0 20 0 5;c0 20 0 5;c0 20 0 5;c0 20 0 5;";
        Life x = Life.told(six);
        for (int c = 0; c < 6; c++) {
            x.calls(c, 1 << c);
        }
        for (int c = 0; c < 6; c++) {
            due("bit " + c, x.hour(), 1 << c);
        }
        due("none", x.hour(), 0);
        due("all", Life.told(six).callAll(1).hour(), 63);
    }

    /** AN HOUR of nobody goes by, too. */
    private static void hourOfNobody() {
        Life x = new Life();
        due("nobody", x.hour(), 0);
        due("an HOUR later", x.now(1), 1);
        due("it LAPSES", x.now(2), 1);
        due("it can be UNDONE", x.now(5), 1);
    }

    /** "STATE: none." */
    private static void undoNone() {
        Life x = new Life();
        due("none at first", x.undo(), STATE);
        x.hour();
        due("no more", x.undo(), 0);
        due("none again", x.undo(), STATE);
        due("0 may be", x.now(5), 0);
        due("nothing changes", x.now(1), 0);
    }

    /** "10 are known, older ones are lost": calls(), by nine, ten, eleven and twenty-five. */
    private static void undoTenAndEleven() {
        int[] many = {1, 9, 10, 11, 12, 20, 21, 25};
        for (int all : many) {
            Life x = Life.told("c0 9 0 5;");
            for (int i = 1; i <= all; i++) {
                x.calls(0, i);
            }
            int known = Math.min(all, 10);
            due("known of " + all, x.now(5), known);
            for (int i = 1; i <= known; i++) {
                due("UNDONE, more of " + all, x.undo(), known - i);
                due("CALLED as it was", x.citizen(0, 4), all - i);
            }
            due("no more of " + all, x.undo(), STATE);
            due("the oldest ones stand", x.citizen(0, 4), all - known);
        }
    }

    /** The same by hour(). */
    private static void undoTenHours() {
        for (int all = 9; all <= 12; all++) {
            Life x = new Life().pass(all);
            int known = Math.min(all, 10);
            due("known of " + all, x.now(5), known);
            for (int i = 1; i <= known; i++) {
                due("UNDONE, more of " + all, x.undo(), known - i);
                due("LAPSES as they were", x.now(2), all - i);
                due("THE HOUR as it was", x.now(0) * 8 + x.now(1), all - i);
            }
            due("no more of " + all, x.undo(), STATE);
        }
    }

    /** "the latest calls(), hour()": both are among the ten, and ten are known again behind what was UNDONE. */
    private static void undoMixed() {
        Life x = Life.told("c0 9 0 5;");
        for (int i = 1; i <= 6; i++) {
            x.calls(0, i);
            x.hour();
        }
        for (int i = 0; i < 7; i++) {
            x.undo();
        }
        due("three are left", x.now(5), 3);
        due("CALLED as then", x.citizen(0, 4), 3);
        due("THE HOUR as then", x.now(1), 2);
        for (int i = 1; i <= 8; i++) {
            x.calls(0, 100 + i);
        }
        due("ten again", x.now(5), 10);
        for (int i = 9; i >= 0; i--) {
            due("one by one", x.undo(), i);
        }
        due("the latest two of the three were known", x.citizen(0, 4), 2);
        due("the older one, calls(), stands, the HOUR behind it is UNDONE", x.now(1), 1);
        due("none", x.undo(), STATE);
    }

    /** "UNDONE": all that AN HOUR changes is as it was. */
    private static void undoBringsAllBack() {
        Life x = Life.told("d2;q2;b0 1;c0 20 0 5;c0 1 0 5;c1 0 0 5;c1 19 0 3;n1 0 4;").callAll(255);
        String before = x.seen();
        x.hour();
        due("UNDONE", x.undo(), 4);
        alike("as before", x.seen(), before);
        String called = x.seen();
        x.calls(2, 7);
        x.undo();
        alike("as before, calls()", x.seen(), called);
    }

    /** "behind 7 it is 0, and the DAY 1 more": UNDONE, too. */
    private static void undoOverTheDay() {
        Life x = new Life().pass(8);
        due("DAY 1", x.now(0), 1);
        due("HOUR 0", x.now(1), 0);
        x.undo();
        due("DAY 0", x.now(0), 0);
        due("HOUR 7", x.now(1), 7);
        x.hour();
        due("DAY 1 again", x.now(0), 1);
    }

    /** "that was not refused". */
    private static void undoRefusedAreNone() {
        Life x = Life.told("c0 9 0 5;");
        x.calls(0, 3);
        x.calls(0, 256);
        x.calls(1, 0);
        x.calls(-1, 0);
        due("one may be UNDONE", x.now(5), 1);
        due("no more", x.undo(), 0);
        due("CALLED for none", x.citizen(0, 4), 0);
        for (int i = 1; i <= 10; i++) {
            x.calls(0, i);
        }
        x.calls(0, -1);
        for (int i = 9; i >= 0; i--) {
            due("a refused one pushes none out", x.undo(), i);
        }
        due("CALLED for none again", x.citizen(0, 4), 0);
    }

    /** "the latest calls(), hour()": nothing else is UNDONE, neither letters nor COUNTS, IMAGES nor THE TRACE. */
    private static void undoNothingElse() {
        Life x = Life.told("c0 9 0 5;");
        x.hour();
        x.type('d');
        x.counted(0, 0);
        x.keep(0);
        x.rate(0, 0);
        x.forget();
        x.counted(1, 1);
        x.asleepIn(3);
        due("only the HOUR may be UNDONE", x.now(5), 1);
        due("UNDONE", x.undo(), 0);
        due("THE HOUR", x.now(1), 0);
        due("letters stay", x.count(5), 1);
        due("COUNTS stay", x.count(4), 1);
        due("THE TRACE stays", x.trace(), 1);
        due("the IMAGE stays", x.back(0), 0);
        due("with its HOUR", x.now(1), 1);
    }

    /** "99 at most": 512 calls come as far as DAY 63, where hour() is not refused; DAY 99 is in PromiseTests. */
    private static void dayNinetyNineIsFarOff() {
        Life x = Life.told("q0;").pass(500);
        due("the DAY", x.now(0), 62);
        due("THE HOUR", x.now(1), 4);
        due("not refused", x.hour(), 0);
    }
}
