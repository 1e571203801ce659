/** Part 1 of the document, with promises 1 to 8 and 26: what there may be of each thing, and every kind of FAULT. */
public final class TextBoundaryTests extends Boundary {
    private static final String CITIZEN = "c0 9 0 5;";
    private static final String NOISE = "n0 0 5;";

    public static void main(String[] args) {
        newObject();
        districtsOneToFour();
        districtsUpToTheLast();
        districtsAtFirst();
        bedsNoneToSix();
        bedsAtFirst();
        bedsToldAgain();
        quotaNoneToSix();
        quotaAtFirst();
        quotaOnce();
        citizensSixAtMost();
        tiredUpToTwenty();
        workAllHours();
        deepOneToNine();
        noisesSixAtMost();
        noiseHours();
        loudOneToNine();
        roadsUnlike();
        roadsToldAgain();
        lettersOfAll();
        lettersTwoHundred();
        textOfTwoHundred();
        blanks();
        otherLetters();
        lettersInPlaceOfOthers();
        itemsEnded();
        districtsFirstOfAll();
        numbersUpTo255();
        numbersWithZeroAhead();
        firstFault();
        textEndsTooEarly();
        faultChangesNothing();
        textEmpty();
        textManyItems();
        cleared();
        askedOfDistrict();
        askedOfCitizen();
        askedOfNoise();
        askedOfNow();
        askedOfCount();
        mostAndLeast();
        CHECKS.end("TextBoundaryTests");
    }

    /** "As told; one DISTRICT, nobody." */
    private static void newObject() {
        Life x = new Life();
        int[] counts = {1, 1, 0, 0, 0, 0};
        int[] nows = {0, 0, 0, NONE, NONE, 0};
        for (int i = 0; i < 6; i++) {
            due("a new object: count " + i, x.count(i), counts[i]);
            due("a new object: now " + i, x.now(i), nows[i]);
        }
        due("a new object: BEDS", x.district(0, 0), 6);
        due("a new object: no ROADS", x.district(0, 1), 0);
        due("a new object: no second DISTRICT", x.district(1, 0), BAD);
        due("a new object: nobody", x.citizen(0, 0), BAD);
        due("a new object: no NOISE", x.noise(0, 0), BAD);
        due("a new object: no IMAGE 0", x.back(0), STATE);
        due("a new object: no IMAGE 1", x.back(1), STATE);
        due("a new object: nothing UNDONE", x.undo(), STATE);
        due("a new object: THE TRACE", x.trace(), 0);
        due("a new object: no letters", x.clear(), 0);
        due("a new object: no COUNTS", x.forget(), 0);
    }

    /** A number of one item from below its least to far above its most; its place is where the text before it ends. */
    private static void range(String before, String behind, int least, int most, int items) {
        for (int v = 0; v <= 300; v++) {
            String text = before + v + behind;
            if (v >= least && v <= most) {
                items(text, items);
            } else {
                fault(text, before.length());
            }
        }
    }

    /** "DISTRICTS 0 .. n - 1 (n 1 .. 4". */
    private static void districtsOneToFour() {
        range("d", ";", 1, 4, 1);
        for (int n = 1; n <= 4; n++) {
            Life x = items("d" + n + ";", 1);
            due("n DISTRICTS", x.count(0), n);
            due("the last of n", x.district(n - 1, 0), 6);
            due("not n itself", x.district(n, 0), BAD);
        }
    }

    /** "a DISTRICT that there is not", in each ITEM that names one. */
    private static void districtsUpToTheLast() {
        for (int n = 1; n <= 4; n++) {
            String d = "d" + n + ";";
            range(d + "b", " 1;", 0, n - 1, 2);
            range(d + "c", " 9 0 5;", 0, n - 1, 2);
            range(d + "n", " 0 5;", 0, n - 1, 2);
        }
        for (int n = 2; n <= 4; n++) {
            String d = "d" + n + ";";
            int last = n - 1;
            items(d + "e0 " + last + ";", 2);
            items(d + "e" + last + " 0;", 2);
            fault(d + "e0 " + n + ";", d.length() + 3);
            fault(d + "e" + n + " 0;", d.length() + 1);
            fault(d + "e" + n + " " + n + ";", d.length() + 1);
        }
    }

    /** "n 1 .. 4; 1 at first": a text without d tells of one. */
    private static void districtsAtFirst() {
        due("1 at first", new Life().count(0), 1);
        due("1 without d", items("b0 1;", 1).count(0), 1);
        fault("b1 1;", 1);
        fault("c1 9 0 5;", 1);
        fault("n1 0 5;", 1);
        fault("e0 1;", 3);
        Life x = Life.told("d4;");
        for (int times = 1; times <= 2; times++) {
            x.tell("q1;");
            due("1 again, when it is read anew without d, " + times, x.count(0), 1);
        }
        due("and no other", x.district(1, 0), BAD);
        x.write("b3 1;");
        due("a DISTRICT that there was is none now", x.city(), -11);
    }

    /** "BEDS of each (0 .. 6". */
    private static void bedsNoneToSix() {
        range("b0 ", ";", 0, 6, 1);
        for (int beds = 0; beds <= 6; beds++) {
            Life x = items("d4;b3 " + beds + ";", 2);
            due("BEDS as told", x.district(3, 0), beds);
            due("BEDS of another one", x.district(2, 0), 6);
        }
    }

    /** "BEDS of each (0 .. 6; 6 at first)". */
    private static void bedsAtFirst() {
        Life x = Life.told("d4;b1 0;b3 5;");
        int[] beds = {6, 0, 6, 5};
        for (int d = 0; d < 4; d++) {
            due("BEDS of " + d, x.district(d, 0), beds[d]);
        }
        for (int times = 1; times <= 2; times++) {
            x.tell("d4;");
            for (int d = 0; d < 4; d++) {
                due("BEDS at first of " + d + ", read anew " + times, x.district(d, 0), 6);
            }
        }
    }

    /** "b D N (BEDS; told again: the later ones)". */
    private static void bedsToldAgain() {
        due("more BEDS", items("b0 1;b0 4;", 2).district(0, 0), 4);
        due("fewer BEDS", items("b0 4;b0 1;", 2).district(0, 0), 1);
        due("the third", items("b0 4;b0 1;b0 0;", 3).district(0, 0), 0);
        Life x = items("d2;b0 4;b1 3;b0 2;", 4);
        due("its own", x.district(0, 0), 2);
        due("not another one's", x.district(1, 0), 3);
    }

    /** "QUOTA (0 .. 6". */
    private static void quotaNoneToSix() {
        range("q", ";", 0, 6, 1);
        for (int quota = 0; quota <= 6; quota++) {
            due("QUOTA as told", items("q" + quota + ";", 1).count(1), quota);
        }
    }

    /** "QUOTA (0 .. 6; 1 at first)". */
    private static void quotaAtFirst() {
        due("1 at first", new Life().count(1), 1);
        due("1 without q", items("d1;", 1).count(1), 1);
        Life x = Life.told("q6;");
        for (int times = 1; times <= 2; times++) {
            x.tell("");
            due("1 again, when it is read anew without q, " + times, x.count(1), 1);
        }
        x.tell("q0;");
        x.write("q7;");
        due("q7 is refused", x.city(), -11);
        due("QUOTA stays 0", x.count(1), 0);
    }

    /** "q N (once at most)", and the FAULT "q again". */
    private static void quotaOnce() {
        items("q1;", 1);
        items("d2;b0 1;q3;", 3);
        items("q3;b0 1;", 2);
        fault("q1;q1;", 3);
        fault("q0;q1;", 3);
        fault("d1;q1;b0 1; q", 12);
        fault("q2;" + CITIZEN + NOISE + "q2;", 19);
        Life x = Life.told("q2;");
        x.tell("q3;");
        due("once in each text", x.count(1), 3);
    }

    /** "CITIZENS 0 .. (6 at most)", and the FAULT "a seventh c". */
    private static void citizensSixAtMost() {
        for (int many = 0; many <= 6; many++) {
            Life x = items(repeat(CITIZEN, many), many);
            due("CITIZENS", x.count(2), many);
            due("the last one", x.citizen(many - 1, 3), many > 0 ? 5 : BAD);
            due("one behind the last", x.citizen(many, 3), BAD);
        }
        String six = repeat(CITIZEN, 6);
        fault(six + CITIZEN, 54);
        fault(six + "c", 54);
        fault(six + " c9 99 999 99;", 55);
        fault(six + repeat(NOISE, 6) + "c", 96);
        items(six + repeat(NOISE, 6) + "b0 1;q6;", 14);
    }

    /** "TIRED (0 .. 20)". */
    private static void tiredUpToTwenty() {
        range("c0 ", " 0 5;", 0, 20, 1);
        for (int tired = 0; tired <= 20; tired++) {
            due("TIRED as told", items("c0 " + tired + " 0 5;", 1).citizen(0, 1), tired);
        }
    }

    /** "WORK (HOURS 0 .. 7 as bits)". */
    private static void workAllHours() {
        range("c0 9 ", " 5;", 0, 255, 1);
        for (int hour = 0; hour < 8; hour++) {
            due("WORK as told", items("c0 9 " + (1 << hour) + " 5;", 1).citizen(0, 2), 1 << hour);
        }
        due("no WORK", items("c0 9 0 5;", 1).citizen(0, 2), 0);
        due("WORK in all HOURS", items("c0 9 255 5;", 1).citizen(0, 2), 255);
    }

    /** "DEEP (1 .. 9)". */
    private static void deepOneToNine() {
        range("c0 9 0 ", ";", 1, 9, 1);
        for (int deep = 1; deep <= 9; deep++) {
            due("DEEP as told", items("c0 9 0 " + deep + ";", 1).citizen(0, 3), deep);
        }
    }

    /** "NOISES (6 at most)", and the FAULT "a seventh n". */
    private static void noisesSixAtMost() {
        for (int many = 0; many <= 6; many++) {
            Life x = items(repeat(NOISE, many), many);
            due("NOISES", x.count(3), many);
            due("the last one", x.noise(many - 1, 2), many > 0 ? 5 : BAD);
            due("one behind the last", x.noise(many, 2), BAD);
        }
        String six = repeat(NOISE, 6);
        fault(six + NOISE, 42);
        fault(six + "n", 42);
        fault(six + "  n9;", 44);
        fault(repeat(CITIZEN, 6) + six + "n", 96);
    }

    /** "NOISES: a DISTRICT, an HOUR (0 .. 7)". */
    private static void noiseHours() {
        range("n0 ", " 5;", 0, 7, 1);
        for (int hour = 0; hour <= 7; hour++) {
            due("HOUR as told", items("n0 " + hour + " 5;", 1).noise(0, 1), hour);
        }
    }

    /** "LOUD (1 .. 9)". */
    private static void loudOneToNine() {
        range("n0 0 ", ";", 1, 9, 1);
        for (int loud = 1; loud <= 9; loud++) {
            due("LOUD as told", items("n0 0 " + loud + ";", 1).noise(0, 2), loud);
        }
    }

    /** "e A B (a ROAD; unlike", and the FAULT "a B that is A". */
    private static void roadsUnlike() {
        for (int a = 0; a < 4; a++) {
            for (int b = 0; b < 4; b++) {
                String text = "d4;e" + a + " " + b + ";";
                if (a == b) {
                    fault(text, 6);
                    continue;
                }
                Life x = items(text, 2);
                for (int d = 0; d < 4; d++) {
                    due("joined by " + text + " to " + d, x.district(d, 1), d == a ? 1 << b : d == b ? 1 << a : 0);
                }
            }
        }
        fault("e0 0;", 3);
        fault("d1;e0 1;", 6);
    }

    /** "e A B (a ROAD; unlike; told again: as it is)". */
    private static void roadsToldAgain() {
        Life x = items("d3;e0 1;e0 1;e1 0;", 4);
        due("still joined", x.district(0, 1), 2);
        due("and back", x.district(1, 1), 1);
        due("not the third", x.district(2, 1), 0);
        Life all = items("d4;e0 1;e0 2;e0 3;e1 2;e1 3;e2 3;", 7);
        int[] joined = {14, 13, 11, 7};
        for (int d = 0; d < 4; d++) {
            due("joined to all but itself", all.district(d, 1), joined[d]);
        }
        for (int times = 1; times <= 2; times++) {
            all.tell("d4;");
            for (int d = 0; d < 4; d++) {
                due("joined to none, read anew " + times, all.district(d, 1), 0);
            }
        }
    }

    /** "A letter (0 .. 255) comes to THE TEXT: how many it has. BAD". */
    private static void lettersOfAll() {
        Life x = new Life();
        for (int letter = 0; letter <= 255; letter++) {
            if (letter % 128 == 0) {
                x.clear();
            }
            due("type " + letter, x.type(letter), letter % 128 + 1);
        }
        x.clear();
        due("letter -1", x.type(-1), BAD);
        due("letter 256", x.type(256), BAD);
        due("a letter that is d but for its high bits", x.type(256 + 'd'), BAD);
        for (int far : FAR_OFF) {
            due("letter " + far, x.type(far), BAD);
        }
        due("a refused letter is none", x.count(5), 0);
        due("and was not written", x.city(), 0);
    }

    /** "a text (200 letters at most)", and "BAD; FULL." */
    private static void lettersTwoHundred() {
        Life x = new Life();
        for (int i = 1; i <= 199; i++) {
            x.type(' ');
        }
        due("199 letters", x.count(5), 199);
        due("the 200th", x.type(' '), 200);
        due("the 201st", x.type(' '), FULL);
        due("the 201st again", x.type('d'), FULL);
        due("BAD ahead of FULL", x.type(256), BAD);
        due("BAD ahead of FULL", x.type(-1), BAD);
        due("still 200", x.count(5), 200);
        due("nothing but blanks", x.city(), 0);
        due("empty then", x.count(5), 0);
        due("no more FULL", x.type(' '), 1);
        due("it had one", x.clear(), 1);
    }

    /** "200 letters at most": the last of them is read, too, and its place is 199. */
    private static void textOfTwoHundred() {
        String head = "d4;" + repeat(" ", 200 - 3 - 12);
        Life x = items(head + "c3 20 255 9;", 2);
        due("the CITIZEN at the end", x.citizen(0, 0), 3);
        fault(head + "c3 20 255 9", 199);
        fault(head + "c3 20 255 9x", 199);
        fault(head + "c3 20 255 9 ", 200);
        fault(head + "c3 20 255 99", 198);
        fault(repeat(" ", 199) + ";", 199);
        fault(repeat(" ", 199) + "d", 200);
        Life full = new Life();
        full.write(head + "c3 20 255 9 ;");
        due("the 201st letter is not there", full.city(), -210);
        due("all 200 are cleared", full.clear(), 200);
        due("no letter is left", full.city(), 0);
    }

    /** "blanks (32) between TOKENS": none, one, many, but in no NUMBER. */
    private static void blanks() {
        items("d4;e0 1;", 2);
        items(" d4;", 1);
        items("d4; ", 1);
        items("   ", 0);
        items("  d  4  ;  e  0   1  ;  ", 2);
        items("c 0 9 0 5 ; n 0 0 5 ;", 2);
        due("blanks are none of a NUMBER", items("c0 9 25 5;", 1).citizen(0, 2), 25);
        fault("c0 9 2 5 5;", 9);
        fault("d4;e01;", 4);
        fault("d4;e1 1 ;", 6);
        fault("d4;e 12;", 5);
    }

    /** "of any other letter ... that TOKEN's" place: each of the 256 letters by itself. */
    private static void otherLetters() {
        for (int letter = 0; letter <= 255; letter++) {
            Life x = new Life();
            x.type(letter);
            boolean begins = "dqebcn".indexOf(letter) >= 0;
            due("the text of letter " + letter, x.city(), letter == 32 ? 0 : begins ? -11 : -10);
        }
    }

    /** The same behind d and behind b0, where a NUMBER is due, behind d2, where a ; is, and behind d2; where an ITEM is. */
    private static void lettersInPlaceOfOthers() {
        for (int letter = 0; letter <= 255; letter++) {
            String sign = String.valueOf((char) letter);
            boolean digit = letter >= '0' && letter <= '9';
            boolean begins = "qebcn".indexOf(letter) >= 0;
            Life number = new Life();
            number.write("d" + sign + ";");
            due("letter " + letter + " for n", number.city(), letter >= '1' && letter <= '4' ? 1 : letter == 32 ? -12 : -11);
            Life end = new Life();
            end.write("d2" + sign);
            due("letter " + letter + " for ;", end.city(), letter == ';' ? 1 : letter == 32 ? -13 : digit ? -11 : -12);
            Life item = new Life();
            item.write("d2;" + sign);
            due("letter " + letter + " for an ITEM", item.city(), letter == 32 ? 1 : begins ? -14 : -13);
            // Behind a 0 that may stand, so that no letter is taken for that one once more.
            Life second = new Life();
            second.write("b0 " + sign + ";");
            due("letter " + letter + " for BEDS", second.city(), letter >= '0' && letter <= '6' ? 1 : letter == 32 ? -14 : -13);
        }
    }

    /** "ITEMS, each ended by ;": one NUMBER too few, one too many, no ;, two of them. */
    private static void itemsEnded() {
        String[] whole = {"d2", "q2", "e0 1", "b0 2", "c0 9 0 5", "n0 0 5"};
        for (String item : whole) {
            String head = item.startsWith("d") ? "" : "d2;";
            int many = head.isEmpty() ? 1 : 2;
            int place = head.length();
            items(head + item + ";", many);
            items(head + item + " ;", many);
            fault(head + item + " 1;", place + item.length() + 1);
            fault(head + item + "b0 1;", place + item.length());
            fault(head + item + ";;", place + item.length() + 1);
            fault(head + item.charAt(0) + ";", place + 1);
            int lastBlank = item.lastIndexOf(' ');
            if (lastBlank > 0) {
                fault(head + item.substring(0, lastBlank) + ";", place + lastBlank);
            }
        }
        fault(";", 0);
        fault("0;", 0);
    }

    /** "d N (the first of all, if it is told)", and the FAULT "d behind another ITEM". */
    private static void districtsFirstOfAll() {
        items("d1;q1;", 2);
        items("  d1;q1;", 2);
        items("q1;", 1);
        fault("d1;d1;", 3);
        fault("d1; d1;", 4);
        fault("q1;d1;", 3);
        fault("b0 1;d1;", 5);
        fault("c0 9 0 5;d1;", 9);
        fault("n0 0 5;d1;", 7);
        fault("d2;e0 1;d2;", 8);
        fault("q1;d", 3);
    }

    /** "a NUMBER above 255 ... that TOKEN's" place, however long it is. */
    private static void numbersUpTo255() {
        items("c0 9 255 5;", 1);
        fault("c0 9 256 5;", 5);
        fault("c0 9 1000 5;", 5);
        fault("c0 9 65536 5;", 5);
        fault("c0 9 4294967296 5;", 5);
        fault("c0 9 4294967301 5;", 5);
        fault("c0 9 18446744073709551616 5;", 5);
        fault("c0 9 " + repeat("9", 190) + " 5;", 5);
        fault("c0 9 1" + repeat("0", 190) + " 5;", 5);
        fault("d257;", 1);
        fault("256", 0);
        fault("d2 256;", 3);
        fault("d2;256;", 3);
    }

    /** "a NUMBER ... with a 0 ahead of others, that TOKEN's" place; a 0 by itself is one. */
    private static void numbersWithZeroAhead() {
        items("q0;", 1);
        items("q 0 ;", 1);
        items("c0 20 100 5;", 1);
        fault("q00;", 1);
        fault("q01;", 1);
        fault("q 06;", 2);
        fault("c0 010 0 5;", 3);
        fault("c0 9 0255 5;", 5);
        fault("c0 9 00 5;", 5);
        fault("c00 9 0 5;", 1);
        fault("c0 9 0 05;", 7);
        fault("d04;", 1);
        fault("n0 07 5;", 3);
        fault("b0 00;", 3);
    }

    /** "the first TOKEN that can't stand there": the first of several. */
    private static void firstFault() {
        fault("q9;x", 1);
        fault("x;q9;", 0);
        fault("d5;d5;", 1);
        fault("q1;d9;x", 3);
        fault("c9 99 256 0;", 1);
        fault("c0 99 256 0;", 3);
        fault("c0 9 256 0;", 5);
        fault("c0 9 255 0;", 9);
        fault("n9 9 0;", 1);
        fault("n0 9 0;", 3);
        fault("n0 7 0;", 5);
        fault("d2;e2 2;", 4);
        fault("d2;e1 1;x", 6);
        fault("b9 9;", 1);
        fault("b0 9;", 3);
        fault("d2;q7", 4);
    }

    /** "the text's length, if it ends too early": every beginning of a text, and each with blanks behind it. */
    private static void textEndsTooEarly() {
        String text = "d4;q6;e0 1;b3 2;c0 20 255 9;n3 7 9;";
        int items = 0;
        for (int length = 0; length <= text.length(); length++) {
            String part = text.substring(0, length);
            boolean ends = length == 0 || part.endsWith(";");
            if (length > 0 && ends) {
                items++;
            }
            for (int blanks = 0; blanks <= 2; blanks++) {
                String told = part + repeat(" ", blanks);
                if (ends) {
                    items(told, items);
                } else {
                    fault(told, told.length());
                }
            }
        }
        due("all items were told", items, 6);
    }

    /** "-10 less FAULT: nothing changes": THE TEXT, too, so that it may be ended behind that. */
    private static void faultChangesNothing() {
        Life x = Life.told("d2;q2;e0 1;b1 3;c1 5 6 7;n1 3 4;");
        x.calls(0, 9);
        x.hour();
        x.keep(1);
        x.counted(3, 1);
        x.rate(0, 0);
        String before = x.seen();
        x.write("d4;q0;b0 0;c0 1 1 1;n0 0 1;e1 2;q1");
        due("q again", x.city(), -10 - 32);
        due("THE TEXT stays", x.clear(), 34);
        alike("nothing changes", x.seen(), before);
        due("one more can be UNDONE", x.undo(), 1);
        due("the IMAGE stays", x.back(1), 0);
        due("with its HOUR", x.now(1), 1);
        Life y = new Life();
        y.write("d3");
        due("it ends too early", y.city(), -12);
        due("the letter is the third", y.type(';'), 3);
        due("now it is whole", y.city(), 1);
        due("three DISTRICTS", y.count(0), 3);
    }

    /** "THE TEXT tells all anew, and is empty then": an empty one tells of one DISTRICT and nobody. */
    private static void textEmpty() {
        Life x = items("", 0);
        due("empty", x.count(5), 0);
        Life y = Life.told("d3;q2;e0 1;b0 2;" + CITIZEN + NOISE);
        y.pass(9);
        due("no ITEMS", y.city(), 0);
        alike("as a new object", y.seen(), new Life().seen());
    }

    /** "how many ITEMS": as many as 200 letters hold. */
    private static void textManyItems() {
        due("the last of 40", items(repeat("b0 1;", 39) + "b0 2;", 40).district(0, 0), 2);
        items("d4;" + repeat("e0 1;", 39), 40);
    }

    /** "THE TEXT is empty: how many letters it had." */
    private static void cleared() {
        Life x = new Life();
        due("none", x.clear(), 0);
        x.type('d');
        due("one", x.clear(), 1);
        due("none behind it", x.clear(), 0);
        x.write("d2");
        x.clear();
        x.write("d3;");
        due("nothing of it is left", x.city(), 1);
        due("the later one", x.count(0), 3);
        x.write("d2;");
        due("three letters", x.clear(), 3);
        due("nothing is changed by a text that is not read", x.count(0), 3);
    }

    /** "Of a DISTRICT: 0 BEDS, 1 DISTRICTS joined to it (bits). BAD." */
    private static void askedOfDistrict() {
        for (int n = 1; n <= 4; n++) {
            Life x = Life.told("d" + n + ";");
            for (int d = -2; d <= 5; d++) {
                due("BEDS of " + d + " of " + n, x.district(d, 0), d >= 0 && d < n ? 6 : BAD);
                due("ROADS of " + d + " of " + n, x.district(d, 1), d >= 0 && d < n ? 0 : BAD);
                due("what -1 of " + d, x.district(d, -1), BAD);
                due("what 2 of " + d, x.district(d, 2), BAD);
            }
            for (int far : FAR_OFF) {
                due("DISTRICT " + far, x.district(far, 0), BAD);
                due("what " + far, x.district(0, far), BAD);
            }
        }
    }

    /** "Of a CITIZEN: 0 DISTRICT ... 5 SLEPT. BAD." */
    private static void askedOfCitizen() {
        int[] answers = {0, 9, 0, 5, 0, 0};
        for (int many = 0; many <= 6; many++) {
            Life x = Life.told(repeat(CITIZEN, many));
            for (int c = -2; c <= 7; c++) {
                for (int what = -2; what <= 7; what++) {
                    boolean is = c >= 0 && c < many && what >= 0 && what < 6;
                    due("what " + what + " of " + c + " of " + many, x.citizen(c, what), is ? answers[what] : BAD);
                }
            }
            for (int far : FAR_OFF) {
                due("CITIZEN " + far, x.citizen(far, 0), BAD);
                due("what " + far, x.citizen(0, far), BAD);
            }
        }
    }

    /** "Of a NOISE: 0 DISTRICT, 1 HOUR, 2 LOUD. BAD." */
    private static void askedOfNoise() {
        int[] answers = {0, 0, 5};
        for (int many = 0; many <= 6; many++) {
            Life x = Life.told(repeat(NOISE, many));
            for (int i = -2; i <= 7; i++) {
                for (int what = -2; what <= 4; what++) {
                    boolean is = i >= 0 && i < many && what >= 0 && what < 3;
                    due("what " + what + " of " + i + " of " + many, x.noise(i, what), is ? answers[what] : BAD);
                }
            }
            for (int far : FAR_OFF) {
                due("NOISE " + far, x.noise(far, 0), BAD);
                due("what " + far, x.noise(0, far), BAD);
            }
        }
        Life unlike = Life.told("d4;n3 7 9;n0 0 1;n2 5 4;");
        int[][] told = {{3, 7, 9}, {0, 0, 1}, {2, 5, 4}};
        for (int i = 0; i < 3; i++) {
            for (int what = 0; what < 3; what++) {
                due("what " + what + " of " + i, unlike.noise(i, what), told[i][what]);
            }
        }
    }

    /** "0 the DAY ... 5 how many may be UNDONE. BAD." */
    private static void askedOfNow() {
        Life x = Life.told("c0 9 0 5;c0 9 0 5;");
        x.calls(1, 2);
        x.pass(10);
        int[] answers = {1, 2, 8, 1, 0, 10};
        for (int what = 0; what < 6; what++) {
            due("now " + what, x.now(what), answers[what]);
        }
        due("now -1", x.now(-1), BAD);
        due("now 6", x.now(6), BAD);
        for (int far : FAR_OFF) {
            due("now " + far, x.now(far), BAD);
        }
    }

    /** "0 DISTRICTS ... 5 letters of THE TEXT. BAD." */
    private static void askedOfCount() {
        Life x = Life.told("d2;q3;" + repeat(CITIZEN, 4) + repeat(NOISE, 5));
        for (int i = 0; i < 6; i++) {
            x.counted(i, 0);
        }
        x.write("1234567");
        int[] answers = {2, 3, 4, 5, 6, 7};
        for (int what = 0; what < 6; what++) {
            due("count " + what, x.count(what), answers[what]);
        }
        due("count -1", x.count(-1), BAD);
        due("count 6", x.count(6), BAD);
        for (int far : FAR_OFF) {
            due("count " + far, x.count(far), BAD);
        }
    }

    /** "MOST, LEAST: who SLEPT most, least, of several the first; NONE: no CITIZENS." */
    private static void mostAndLeast() {
        Life nobody = Life.told("d4;n0 0 5;");
        due("MOST of nobody", nobody.now(3), NONE);
        due("LEAST of nobody", nobody.now(4), NONE);
        Life one = Life.told(CITIZEN);
        due("MOST of one", one.now(3), 0);
        due("LEAST of one", one.now(4), 0);
        Life six = Life.told(repeat("c0 20 0 5;", 6));
        due("MOST of six alike", six.now(3), 0);
        due("LEAST of six alike", six.now(4), 0);
        six.calls(5, 1);
        six.hour();
        due("MOST is the last", six.now(3), 5);
        due("LEAST is the first of five", six.now(4), 0);
        six.calls(4, 2);
        six.calls(0, 2);
        six.hour();
        due("MOST is the first of three", six.now(3), 0);
        due("LEAST is the first of three", six.now(4), 1);
        six.callAll(4);
        six.hour();
        due("MOST as before", six.now(3), 0);
        due("LEAST as before", six.now(4), 1);
        six.callAll(0);
        six.calls(4, 8);
        six.calls(1, 8);
        six.calls(2, 8);
        six.calls(3, 8);
        six.hour();
        due("MOST is one in the midst", six.now(3), 4);
        due("LEAST is the first of five again", six.now(4), 0);
        six.callAll(16);
        six.calls(5, 0);
        six.hour();
        due("LEAST is the last", six.now(4), 5);
    }
}
