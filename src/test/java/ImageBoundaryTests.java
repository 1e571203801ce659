/** Part 4 of the document, with promises 23 to 27: KINDS, THE TRACE, IMAGES, reading anew; then what is refused. */
public final class ImageBoundaryTests extends Boundary {
    private static final String CITY = "d3;q2;e0 1;e1 2;b0 1;c0 9 3 5;c0 4 0 2;c1 0 0 9;c2 20 128 1;n0 0 4;n2 1 9;";

    public static void main(String[] args) {
        kindsNoneToFive();
        kindsOfEachCitizen();
        kindsUp();
        rateBelowZero();
        rateAtMost();
        traceOfEachKind();
        traceOfRefused();
        traceStays();
        imagesNoneToOne();
        imagesNoneWasKept();
        imageAnswersTheDay();
        imageBringsAllBack();
        imagesApart();
        imageKeptAgain();
        imageNothingElse();
        imageUndoneBehindBack();
        imageUndoneBehindKeep();
        imageTwice();
        anewAsTold();
        anewTwice();
        anewImagesAreGone();
        anewNoCounts();
        anewNothingUndone();
        anewByFault();
        badAheadOfAll();
        refusedChangesNothing();
        askingChangesNothing();
        CHECKS.end("ImageBoundaryTests");
    }

    /** "KINDS": 0 to 5; "RATE. NO: BAD." */
    private static void kindsNoneToFive() {
        Life x = Life.told("c0 9 7 4;");
        int[] rates = {9, 12, 5, 24, 5, 9};
        due("KIND -1", x.rate(-1, 0), NO);
        for (int kind = 0; kind <= 5; kind++) {
            due("KIND " + kind, x.rate(kind, 0), rates[kind]);
        }
        due("KIND 6", x.rate(6, 0), NO);
        for (int far : FAR_OFF) {
            due("KIND " + far, x.rate(far, 0), NO);
        }
        due("nobody", new Life().rate(0, 0), NO);
    }

    /** "RATE of a CITIZEN": the first, the last, the one behind him. */
    private static void kindsOfEachCitizen() {
        for (int many = 0; many <= 6; many++) {
            StringBuilder text = new StringBuilder();
            for (int c = 0; c < many; c++) {
                text.append("c0 ").append(10 + c).append(" 0 5;");
            }
            Life x = Life.told(text.toString());
            for (int kind = 0; kind <= 5; kind++) {
                due("CITIZEN -1", x.rate(kind, -1), NO);
                due("one behind the last", x.rate(kind, many), NO);
            }
            for (int c = 0; c < many; c++) {
                due("CITIZEN " + c, x.rate(0, c), 10 + c);
                due("TWIN " + c + ": his number, too", x.rate(4, c), 10 + c - 5 + c);
            }
            for (int far : FAR_OFF) {
                due("CITIZEN " + far, x.rate(0, far), NO);
            }
        }
    }

    /** "\"up\" is what the KIND above does": each KIND over one another. */
    private static void kindsUp() {
        Life x = Life.told("c0 9 0 5;c0 12 176 4;");
        x.calls(1, 1 + 2);
        x.pass(3);
        // TIRED 12, 10, 8, 9; WORK in 3 HOURS; DEEP 4; number 1; SLEPT 2.
        int[] rates = {9, 9 + 3, 9 - 4, 2 * (9 + 3), 9 - 4 + 1, 9 + 2};
        for (int kind = 0; kind <= 5; kind++) {
            due("KIND " + kind, x.rate(kind, 1), rates[kind]);
        }
        due("BAKER without WORK", x.rate(1, 0), 12);
        due("BAKER with WORK in all HOURS", Life.told("c0 9 255 5;").rate(1, 0), 17);
    }

    /** "where a number may be below 0": a RATE is. */
    private static void rateBelowZero() {
        Life x = Life.told("c0 0 0 9;c0 8 0 9;c0 9 0 9;");
        due("the least of all", x.rate(2, 0), -9);
        due("TWIN of number 0", x.rate(4, 0), -9);
        due("-1, which is not BAD here", x.rate(2, 1), -1);
        due("TWIN of number 1", x.rate(4, 1), 0);
        due("0", x.rate(2, 2), 0);
    }

    /** RATES at their most. */
    private static void rateAtMost() {
        Life x = Life.told("c0 1 0 1;c0 1 0 1;c0 1 0 1;c0 1 0 1;c0 1 0 1;c0 20 255 1;");
        int[] rates = {20, 28, 19, 56, 24, 20};
        for (int kind = 0; kind <= 5; kind++) {
            due("KIND " + kind, x.rate(kind, 5), rates[kind]);
        }
    }

    /** "numbers in brackets are added to THE TRACE, 0 at first, as often as rate() asks that body: each once". */
    private static void traceOfEachKind() {
        int[] added = {1, 11, 101, 1011, 10101, 100001};
        for (int kind = 0; kind <= 5; kind++) {
            Life x = Life.told("c0 9 0 5;c0 9 0 5;");
            due("0 at first", x.trace(), 0);
            x.rate(kind, 0);
            due("KIND " + kind, x.trace(), added[kind]);
            x.rate(kind, 1);
            due("KIND " + kind + " of another one, too", x.trace(), 2 * added[kind]);
            for (int i = 3; i <= 400; i++) {
                x.rate(kind, 0);
            }
            due("400 times", x.trace(), 400 * added[kind]);
        }
    }

    /** "Refused, and nothing changes": nothing is added. */
    private static void traceOfRefused() {
        Life x = Life.told("c0 9 0 5;");
        for (int kind = 0; kind <= 5; kind++) {
            x.rate(kind, -1);
            x.rate(kind, 1);
        }
        x.rate(-1, 0);
        x.rate(6, 0);
        due("0 still", x.trace(), 0);
    }

    /** THE TRACE is of no text and no IMAGE, so it stays. */
    private static void traceStays() {
        Life x = Life.told("c0 9 0 5;");
        x.keep(0);
        x.hour();
        x.rate(5, 0);
        x.undo();
        due("behind undo()", x.trace(), 100001);
        x.back(0);
        due("behind back()", x.trace(), 100001);
        x.tell("c0 9 0 5;");
        due("behind city()", x.trace(), 100001);
        x.rate(0, 0);
        due("and goes on", x.trace(), 100002);
    }

    /** "IMAGES 0, 1"; "BAD". */
    private static void imagesNoneToOne() {
        Life x = new Life();
        int[] wrong = {-1, 2, Integer.MIN_VALUE, Integer.MAX_VALUE};
        for (int image : wrong) {
            due("keep " + image, x.keep(image), BAD);
            due("back " + image + ", none was kept", x.back(image), BAD);
        }
        due("keep 0", x.keep(0), 0);
        due("keep 1", x.keep(1), 0);
        for (int image : wrong) {
            due("back " + image, x.back(image), BAD);
        }
        due("back 0", x.back(0), 0);
        due("back 1", x.back(1), 0);
    }

    /** "STATE: none was kept." */
    private static void imagesNoneWasKept() {
        for (int kept = 0; kept <= 1; kept++) {
            Life x = new Life();
            x.hour();
            due("none at first", x.back(kept), STATE);
            x.keep(kept);
            due("not the other", x.back(1 - kept), STATE);
            due("THE HOUR stays", x.now(1), 1);
            due("it can still be UNDONE", x.now(5), 1);
            due("this one", x.back(kept), 0);
        }
    }

    /** "An IMAGE is kept: the DAY"; "All of that becomes as an IMAGE has it: the DAY." */
    private static void imageAnswersTheDay() {
        Life x = new Life();
        x.pass(7);
        due("HOUR 7 of DAY 0", x.keep(0), 0);
        x.hour();
        due("HOUR 0 of DAY 1", x.keep(1), 1);
        x.pass(16);
        due("back on DAY 0", x.back(0), 0);
        due("HOUR 7", x.now(1), 7);
        due("back on DAY 1", x.back(1), 1);
        due("HOUR 0", x.now(1), 0);
        due("DAY 1", x.now(0), 1);
    }

    /** "IMAGES keep NOW (DAY, HOUR, how TIRED they are, what they are CALLED for, SLEPT, LAPSES)". */
    private static void imageBringsAllBack() {
        Life x = Life.told(CITY).callAll(255);
        x.pass(10);
        x.keep(1);
        x.back(1);
        String before = x.seen();
        x.calls(0, 5);
        x.calls(3, 0);
        x.pass(9);
        due("DAY 1", x.back(1), 1);
        alike("as it was kept", x.seen(), before);
    }

    /** "IMAGES 0, 1": one is not the other. */
    private static void imagesApart() {
        Life x = Life.told("c0 9 0 5;");
        x.keep(0);
        x.calls(0, 255);
        x.pass(2);
        x.keep(1);
        x.back(0);
        due("TIRED as at first", x.citizen(0, 1), 9);
        due("CALLED as at first", x.citizen(0, 4), 0);
        due("no HOUR", x.now(1), 0);
        due("SLEPT none", x.citizen(0, 5), 0);
        x.back(1);
        due("TIRED as later", x.citizen(0, 1), 5);
        due("CALLED as later", x.citizen(0, 4), 255);
        due("two HOURS", x.now(1), 2);
        due("SLEPT two", x.citizen(0, 5), 2);
    }

    /** An IMAGE that is kept again is the later one. */
    private static void imageKeptAgain() {
        Life x = new Life();
        x.keep(0);
        x.pass(9);
        due("kept again", x.keep(0), 1);
        x.pass(9);
        due("the later one", x.back(0), 1);
        due("its HOUR", x.now(1), 1);
    }

    /** "nothing else": neither letters nor COUNTS nor THE TRACE; nor does what is done later change an IMAGE. */
    private static void imageNothingElse() {
        Life x = Life.told("c0 9 0 5;c0 9 0 5;");
        x.counted(0, 0);
        x.keep(0);
        x.counted(1, 1);
        x.write("q1");
        x.rate(1, 0);
        x.hour();
        x.back(0);
        due("COUNTS stay", x.count(4), 2);
        due("letters stay", x.count(5), 2);
        due("THE TRACE stays", x.trace(), 11);
        x.forget();
        x.clear();
        x.back(0);
        due("COUNTS are still forgotten", x.count(4), 0);
        due("letters are still cleared", x.count(5), 0);
        x.undo();
        x.calls(0, 7);
        x.undo();
        x.back(0);
        due("the IMAGE is as it was", x.citizen(0, 4), 0);
    }

    /** "(nothing can be UNDONE behind back())", and what is done behind that can. */
    private static void imageUndoneBehindBack() {
        Life x = Life.told("c0 9 0 5;");
        x.calls(0, 255);
        x.keep(0);
        x.pass(11);
        x.back(0);
        due("0 may be", x.now(5), 0);
        due("STATE", x.undo(), STATE);
        due("CALLED as kept", x.citizen(0, 4), 255);
        x.hour();
        x.calls(0, 1);
        due("two may be", x.now(5), 2);
        due("one more", x.undo(), 1);
        due("none more", x.undo(), 0);
        due("STATE again", x.undo(), STATE);
        due("as kept", x.now(1), 0);
        for (int i = 1; i <= 11; i++) {
            x.hour();
        }
        due("ten again", x.now(5), 10);
        x.back(1);
        due("a refused back() lets them be", x.now(5), 10);
        x.back(2);
        due("this one, too", x.undo(), 9);
    }

    /** keep() is nothing that can be UNDONE, and lets be what can. */
    private static void imageUndoneBehindKeep() {
        Life x = new Life();
        x.pass(2);
        x.keep(0);
        due("two still", x.now(5), 2);
        x.undo();
        due("an HOUR is UNDONE", x.now(1), 1);
        due("not in the IMAGE", x.back(0), 0);
        due("THE HOUR in it", x.now(1), 2);
    }

    /** back() leaves the IMAGE: it may be had again. */
    private static void imageTwice() {
        Life x = Life.told("c0 9 0 5;").callAll(255);
        x.keep(0);
        for (int i = 0; i < 3; i++) {
            x.pass(5);
            x.calls(0, i);
            due("back", x.back(0), 0);
            due("TIRED as kept", x.citizen(0, 1), 9);
            due("CALLED as kept", x.citizen(0, 4), 255);
            due("THE HOUR as kept", x.now(1), 0);
            due("SLEPT as kept", x.citizen(0, 5), 0);
            due("LAPSES as kept", x.now(2), 0);
        }
    }

    /** "(Read anew: as told": the same text is as on a new object, whatever was done before. */
    private static void anewAsTold() {
        Life fresh = Life.told(CITY);
        Life x = Life.told("d4;q6;e2 3;b2 0;c3 1 1 1;c3 1 1 1;c3 1 1 1;c3 1 1 1;c3 1 1 1;n3 3 3;").callAll(255);
        x.pass(13);
        x.keep(0);
        x.counted(5, 5);
        x.tell(CITY);
        alike("as told", x.seen(), fresh.seen());
        x.callAll(255);
        fresh.callAll(255);
        alike("hours to come as told", x.foreseen(), fresh.foreseen());
        Life again = Life.told(CITY).callAll(255);
        again.pass(3);
        again.tell(CITY);
        again.callAll(255);
        alike("by the same text", again.seen(), fresh.seen());
    }

    /** The same by a third text: nothing is left of the first, neither who is of which DISTRICT nor ROADS nor BEDS. */
    private static void anewTwice() {
        String second = "d2;q2;b0 1;b1 1;c1 9 0 5;c0 9 0 5;c1 9 0 5;";
        String third = "d2;q2;b0 2;b1 1;c0 9 0 5;c1 9 0 5;c0 9 0 5;";
        Life x = Life.told("d4;q0;e0 1;b0 0;b1 0;c1 9 255 5;c0 9 255 5;c1 9 255 5;c0 9 1 1;n0 0 9;n1 0 9;");
        x.tell(second);
        x.callAll(255);
        Life freshSecond = Life.told(second).callAll(255);
        alike("the second", x.seen(), freshSecond.seen());
        alike("its hours to come", x.foreseen(), freshSecond.foreseen());
        due("one in each DISTRICT", x.hour(), 1 + 2);
        x.tell(third);
        x.callAll(255);
        Life freshThird = Life.told(third).callAll(255);
        alike("the third", x.seen(), freshThird.seen());
        alike("its hours to come", x.foreseen(), freshThird.foreseen());
        due("all, two of them in the first DISTRICT", x.hour(), 7);
    }

    /** "IMAGES are gone". */
    private static void anewImagesAreGone() {
        Life x = Life.told("c0 9 0 5;");
        x.keep(0);
        x.keep(1);
        x.tell("c0 9 0 5;");
        due("IMAGE 0", x.back(0), STATE);
        due("IMAGE 1", x.back(1), STATE);
        x.keep(1);
        x.city();
        due("by an empty text, too", x.back(1), STATE);
        due("one may be kept again", x.keep(1), 0);
        due("and be had", x.back(1), 0);
    }

    /** "no COUNTS". */
    private static void anewNoCounts() {
        Life x = Life.told("c0 9 0 5;");
        for (int i = 0; i < 6; i++) {
            x.counted(0, 6);
        }
        due("nobody makes them so", x.sham(), 0);
        x.tell("c0 9 0 5;");
        due("no COUNTS", x.count(4), 0);
        due("anybody does", x.sham(), 1);
        due("the first one", x.counted(0, 0), 1);
    }

    /** "tells all anew": there is nothing to be UNDONE then. */
    private static void anewNothingUndone() {
        Life x = Life.told("c0 9 0 5;").pass(12);
        x.tell("c0 9 0 5;");
        due("0 may be", x.now(5), 0);
        due("STATE", x.undo(), STATE);
        x.hour();
        due("the HOUR behind it", x.undo(), 0);
        due("no more", x.undo(), STATE);
    }

    /** "-10 less FAULT: nothing changes": IMAGES, COUNTS and what can be UNDONE stay. */
    private static void anewByFault() {
        Life x = Life.told("c0 9 0 5;").pass(2);
        x.keep(0);
        x.counted(0, 0);
        x.write("c0 9 0 5;x");
        due("FAULT", x.city(), -19);
        due("COUNTS stay", x.count(4), 1);
        due("two may be UNDONE", x.undo(), 1);
        due("the IMAGE stays", x.back(0), 0);
        due("its HOUR", x.now(1), 2);
    }

    /** "the first of these: BAD ..., STATE (as told), FULL". */
    private static void badAheadOfAll() {
        Life x = new Life();
        due("BAD ahead of STATE", x.back(2), BAD);
        due("BAD ahead of STATE, below", x.back(-1), BAD);
        for (int i = 0; i < 6; i++) {
            x.counted(0, 0);
        }
        due("BAD ahead of FULL", x.counted(0, 7), BAD);
        due("FULL", x.counted(0, 6), FULL);
        for (int i = 0; i < 200; i++) {
            x.type(' ');
        }
        due("BAD ahead of FULL, a letter", x.type(256), BAD);
        due("FULL, a letter", x.type(255), FULL);
        due("BAD ahead of NONE, CART", Life.told("d2;").cart(0, 1, 10, 0), BAD);
        due("NONE, CART", Life.told("d2;").cart(0, 1, 9, 0), NONE);
        due("BAD ahead of NONE, DRUM", new Life().drum(1), BAD);
        due("NONE, DRUM", new Life().drum(0), NONE);
        due("BAD ahead of NONE, CALL-UP", new Life().callUp(4, -1), BAD);
        due("NONE, CALL-UP", new Life().callUp(3, -1), NONE);
    }

    /** "Refused, and nothing changes": a run in which every call is refused in between is as one without them. */
    private static void refusedChangesNothing() {
        Life plain = scene();
        Life refused = scene();
        due("type", refused.type(256), BAD);
        due("calls", refused.calls(4, 0), BAD);
        due("calls", refused.calls(0, 256), BAD);
        due("back", refused.back(2), BAD);
        due("back", refused.back(0), STATE);
        due("keep", refused.keep(2), BAD);
        due("keep", refused.keep(-1), BAD);
        due("counted", refused.counted(21, 0), BAD);
        due("counted", refused.counted(0, 7), BAD);
        due("asleepIn", refused.asleepIn(81), BAD);
        due("callUp", refused.callUp(4, 0), BAD);
        due("cart", refused.cart(0, 3, 5, 0), BAD);
        due("drum", refused.drum(3), BAD);
        due("wants", refused.wants(3), BAD);
        due("odds", refused.odds(11, 0), BAD);
        due("rate", refused.rate(6, 0), NO);
        due("rate", refused.rate(0, 4), NO);
        due("district", refused.district(3, 0), BAD);
        due("citizen", refused.citizen(4, 0), BAD);
        due("noise", refused.noise(2, 0), BAD);
        due("now", refused.now(6), BAD);
        due("count", refused.count(6), BAD);
        due("city", refused.city(), -12);
        sameToTheEnd("refused", refused, plain);
    }

    /** "(Nothing is changed.)": a run with every question of part 3 in between is as one without them. */
    private static void askingChangesNothing() {
        Life plain = scene();
        Life asked = scene();
        for (int i = 0; i < 3; i++) {
            asked.asleepIn(0);
            asked.asleepIn(80);
            asked.lapse();
            asked.callUp(i + 1, -1);
            asked.callUp(i + 1, i);
            asked.callUp(i + 1, i + 1);
            asked.bears();
            asked.cart(0, 2, 9, 0);
            asked.cart(2, 0, 9, 1);
            asked.drum(i);
            asked.wants(i);
            asked.sham();
            asked.odds(5, 0);
            asked.odds(10, 1);
            asked.now(3);
            asked.now(4);
            asked.trace();
        }
        sameToTheEnd("asked", asked, plain);
    }

    private static Life scene() {
        Life x = Life.told(CITY).callAll(255);
        x.pass(2);
        x.keep(1);
        x.counted(0, 1);
        x.calls(0, 3);
        x.hour();
        x.rate(5, 0);
        x.write("d1");
        return x;
    }

    /** All that is seen, and behind that what can be UNDONE and had back. */
    private static void sameToTheEnd(String call, Life x, Life plain) {
        alike(call, x.seen(), plain.seen());
        alike(call + ", hours to come", x.foreseen(), plain.foreseen());
        for (int i = 0; i < 2; i++) {
            due(call + ", undo", x.undo(), plain.undo());
        }
        alike(call + ", UNDONE", x.seen(), plain.seen());
        due(call + ", hour", x.hour(), plain.hour());
        due(call + ", back", x.back(1), plain.back(1));
        alike(call + ", back", x.seen(), plain.seen());
        due(call + ", THE TEXT", x.type(';'), plain.type(';'));
        due(call + ", city", x.city(), plain.city());
    }
}
