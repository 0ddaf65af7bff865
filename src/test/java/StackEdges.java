/** The edges that the document names for the TAPE, the STACK and what its RINGS do: promises 2 to 12. */
final class StackEdges {
    private static final int MIN = Integer.MIN_VALUE;
    private static final int MAX = Integer.MAX_VALUE;
    private static final int BLANKS = 0x20202020;
    private static final String RING = "ring heavy 1 stiff 1 holds 9;";
    /** Its FIT presses (5 - w) / 2 up to w = 5, where it just touches; from 6 on there is a GAP of w - 5. */
    private static final String FIVE = "ring heavy 0 stiff 1 holds 9999 fit 5;ring heavy 1 stiff 1 holds 9999;";

    private StackEdges() {
    }

    static void run() {
        tapeIsFull();
        highestByteFirst();
        tapeIsCut();
        tapeIsEmptyBehindStack();
        faultAheadOfAny();
        textOf400Bytes();
        ringsAreFiveAtMost();
        numbersAtTheirEdges();
        fitIsToldOrNot();
        lastFitSaysNothing();
        wordsNumbersAndSigns();
        blanks();
        asLongAsCanBe();
        firstByItsPlace();
        pressAndGap();
        stretchOfTheOutermost();
        fiveOfTheGreatest();
        lowestTerms();
        placesThatCantBe();
        opensAtTheLeast();
        mostAtItsEdges();
        bestOfNone();
        bestOfLikeOnes();
        chosenOfNone();
    }

    private static void tapeIsFull() {
        Doc.says(2, "how many there are; NONE, and nothing comes, if there would be more than 400.");
        WheelStore x = new WheelStore();
        for (int n = 20; n <= 400; n += 20) {
            Due.due("feed up to " + n, x.feed(BLANKS, BLANKS, BLANKS, BLANKS, BLANKS), n);
        }
        Due.due("feed onto 400", x.feed(BLANKS, BLANKS, BLANKS, BLANKS, BLANKS), -1);
        Due.due("nothing came", x.about(5), 400);
        Due.due("end", x.end(381), 381);
        Due.due("feed onto 381", x.feed(0, 0, 0, 0, 0), -1);
        Due.due("nothing came", x.about(5), 381);
        Due.due("what is there is as it was", x.stack(), 0);
        for (int n = 20; n <= 400; n += 20) {
            x.feed(BLANKS, BLANKS, BLANKS, BLANKS, BLANKS);
        }
        x.end(380);
        Due.due("feed onto 380", x.feed(BLANKS, BLANKS, BLANKS, BLANKS, BLANKS), 400);
    }

    private static void highestByteFirst() {
        Doc.says(2, "Twenty bytes come behind those on the TAPE, of each number the highest first");
        int[] numbers = {0x23202020, 0x20232020, 0x20202320, 0x20202023, MIN, -1, 0x20ff2020, 0x20200020, 0x202020e9};
        int[] places = {0, 1, 2, 3, 0, 0, 1, 2, 3};
        for (int n = 0; n < numbers.length; n++) {
            for (int i = 0; i < 5; i++) {
                int[] a = {BLANKS, BLANKS, BLANKS, BLANKS, BLANKS};
                a[i] = numbers[n];
                WheelStore x = new WheelStore();
                x.feed(a[0], a[1], a[2], a[3], a[4]);
                Due.due("stack", x.stack(), -1);
                Due.due("place of the byte that is no TOKEN", x.fault(1), 4 * i + places[n]);
            }
        }
        WheelStore x = new WheelStore();
        x.feed(BLANKS, BLANKS, BLANKS, BLANKS, BLANKS);
        x.feed(BLANKS, 0x20232020, BLANKS, BLANKS, BLANKS);
        x.stack();
        Due.due("behind those on the TAPE", x.fault(1), 25);
        x.feed(BLANKS, BLANKS, BLANKS, BLANKS, BLANKS);
        x.end(7);
        x.feed(0x23202020, BLANKS, BLANKS, BLANKS, BLANKS);
        x.stack();
        Due.due("behind the 7 that were left", x.fault(1), 7);
    }

    private static void tapeIsCut() {
        Doc.says(3, "The TAPE has its first n bytes: n;");
        WheelStore x = new WheelStore();
        Due.due("end(0) of an empty one", x.end(0), 0);
        x.feed(BLANKS, BLANKS, BLANKS, 0x20232020, BLANKS);
        Due.due("end of all", x.end(20), 20);
        Due.due("end", x.end(14), 14);
        x.stack();
        Due.due("the last byte is kept", x.fault(1), 13);
        x.feed(BLANKS, BLANKS, BLANKS, 0x20232020, BLANKS);
        Due.due("end", x.end(13), 13);
        Due.due("the next one is not", x.stack(), 0);
        x.feed(-1, -1, -1, -1, -1);
        Due.due("end(0)", x.end(0), 0);
        Due.due("nothing is left", x.about(5), 0);
        Doc.says(3, "NONE, doing nothing, if it has not so many, or n is below 0.");
        Due.due("end(1) of an empty one", x.end(1), -1);
        x.feed(BLANKS, BLANKS, BLANKS, BLANKS, BLANKS);
        for (int n : new int[] {21, 400, 401, MAX, -1, -20, MIN}) {
            Due.due("end(" + n + ")", x.end(n), -1);
            Due.due("nothing was done", x.about(5), 20);
        }
    }

    private static void tapeIsEmptyBehindStack() {
        Doc.says(4, "The TAPE (empty then, also at a FAULT) is the STACK: how many RINGS;");
        WheelStore x = new WheelStore();
        Due.due("stack of an empty TAPE", x.stack(), 0);
        Due.due("that is an ACT", x.about(3), 1);
        Due.due("stack of five", Due.stack(x, RING + RING + RING + RING + RING), 5);
        Due.due("the TAPE", x.about(5), 0);
        Due.due("RINGS", x.about(0), 5);
        Due.due("stack of one", Due.stack(x, RING), 1);
        Due.due("RINGS", x.about(0), 1);
        int digest = x.digest();
        Due.due("stack at a FAULT", Due.stack(x, RING + "#"), -1);
        Due.due("the TAPE at a FAULT", x.about(5), 0);
        Doc.says(4, "NONE: a FAULT (it stays).");
        Due.due("RINGS", x.about(0), 1);
        Due.due("the STACK stays", x.digest(), digest);
        Due.due("no ACT", x.about(3), 3);
        Due.due("stack of an empty TAPE", x.stack(), 0);
        Due.due("RINGS", x.about(0), 0);
    }

    private static void faultAheadOfAny() {
        Doc.says(5, "Of the latest stack() what 0: its FAULT (0: without; ahead of any, too), 1: its place (NONE).");
        WheelStore x = new WheelStore();
        faultIs(x, 0, -1);
        Due.tell(x, "#");
        faultIs(x, 0, -1);
        x.stack();
        faultIs(x, 1, 0);
        Due.stack(x, "ring heavy 21");
        faultIs(x, 4, 11);
        x.undo();
        x.misses(3);
        x.feed(-1, 0, 0, 0, 0);
        faultIs(x, 4, 11);
        x.end(0);
        Due.stack(x, RING);
        faultIs(x, 0, -1);
        Due.stack(x, "ring");
        faultIs(x, 2, 4);
        x.stack();
        faultIs(x, 0, -1);
        Doc.says(5, "NONE for another what.");
        Due.stack(x, "ring");
        for (int what : new int[] {-1, 2, 4, MIN, MAX}) {
            Due.due("fault(" + what + ")", x.fault(what), -1);
        }
    }

    private static void faultIs(WheelStore x, int fault, int place) {
        Due.due("fault(0)", x.fault(0), fault);
        Due.due("fault(1)", x.fault(1), place);
    }

    private static void holds(String text, int rings) {
        WheelStore x = new WheelStore();
        Due.due("stack of '" + text + "'", Due.stack(x, text), rings);
        Due.due("its rings", x.about(0), rings);
        faultIs(x, 0, -1);
    }

    private static void fails(String text, int fault, int place) {
        WheelStore x = new WheelStore();
        Due.due("stack of '" + text + "'", Due.stack(x, text), -1);
        faultIs(x, fault, place);
    }

    private static String filled(String text, int length) {
        StringBuilder all = new StringBuilder(text);
        while (all.length() < length) {
            all.append(all.length() % 2 == 0 ? ' ' : '\n');
        }
        return all.toString();
    }

    private static void textOf400Bytes() {
        Doc.says(4, "A STACK is a text of at most 400 bytes");
        holds(filled("", 400), 0);
        holds(filled(RING, 400), 1);
        holds(filled("", 371) + RING, 1);
        fails(filled(RING, 399) + "#", 1, 399);
        fails(filled(RING, 399) + "r", 2, 399);
        fails(filled("ring heavy 1 stiff 1 holds 9", 400), 2, 400);
        fails(filled("", 399) + "7", 2, 399);
    }

    private static void ringsAreFiveAtMost() {
        Doc.says(4, "RINGS, 5 at most");
        String five = RING + RING + RING + RING + RING;
        holds(five, 5);
        holds(RING + RING + RING + RING, 4);
        holds(filled(five, 400), 5);
        Doc.says(4, "(a 6th RING: at its first word)");
        fails(five + RING, 2, 145);
        fails(five + " \n " + RING, 2, 148);
        fails(five + "ring", 2, 145);
        fails(five + "ring heavy 21", 2, 145);
        fails(five + "ring #", 2, 145);
    }

    private static void numbersAtTheirEdges() {
        Doc.says(4, "heavy 0 .. 20, stiff 1, 2, 3, 4, 6 or 12, holds 0 .. 9999; fit (0 .. 99) or play (0 .. 99, as a fit below 0)");
        for (int heavy = 0; heavy <= 20; heavy++) {
            holds("ring heavy " + heavy + " stiff 1 holds 1;", 1);
        }
        for (int stiff : new int[] {1, 2, 3, 4, 6, 12}) {
            holds("ring heavy 1 stiff " + stiff + " holds 1;", 1);
        }
        holds("ring heavy 1 stiff 1 holds 0;", 1);
        holds("ring heavy 1 stiff 1 holds 9999;", 1);
        for (String kind : new String[] {"fit ", "play "}) {
            holds("ring heavy 1 stiff 1 holds 1 " + kind + "0;", 1);
            holds("ring heavy 1 stiff 1 holds 1 " + kind + "99;", 1);
        }
        Doc.says(5, "4 a number that can't be");
        for (int heavy : new int[] {21, 22, 99, 9999}) {
            fails("ring heavy " + heavy + " stiff 1 holds 1;", 4, 11);
        }
        for (int stiff : new int[] {0, 5, 7, 8, 9, 10, 11, 13, 24, 9999}) {
            fails("ring heavy 1 stiff " + stiff + " holds 1;", 4, 19);
        }
        fails("ring heavy 1 stiff 1 holds 1 fit 100;", 4, 33);
        fails("ring heavy 1 stiff 1 holds 1 play 100;", 4, 34);
        fails(RING + "ring heavy 1 stiff 1 holds 1 play 9999;", 4, 63);
    }

    private static void fitIsToldOrNot() {
        Doc.says(4, "(0 if not told;");
        WheelStore x = new WheelStore();
        Due.stack(x, "ring heavy 0 stiff 1 holds 9;" + RING);
        Due.due("press at 0", x.press(0, 0, 0), 0);
        Due.due("gap at 0", x.gap(0, 0, 0), 0);
        int digest = x.digest();
        Due.stack(x, "ring heavy 0 stiff 1 holds 9 fit 0;" + RING);
        Due.due("fit 0 is the same", x.digest(), digest);
        Due.stack(x, "ring heavy 0 stiff 1 holds 9 play 0;" + RING);
        Due.due("play 0 is the same", x.digest(), digest);
        Due.stack(x, "ring heavy 0 stiff 1 holds 9 play 99;" + RING);
        Due.due("a fit of -99", x.gap(0, 0, 0), 99);
        Due.stack(x, "ring heavy 0 stiff 1 holds 9 fit 99;" + RING);
        Due.due("a fit of 99", x.press(0, 0, 0), 99);
        Due.due("a fit of 99", x.press(0, 0, 1), 2);
    }

    private static void lastFitSaysNothing() {
        Doc.says(10, "of the last one it says nothing");
        WheelStore x = new WheelStore();
        for (String last : new String[] {"", " fit 99", " play 99"}) {
            Due.due("stack", Due.stack(x, "ring heavy 0 stiff 1 holds 9 fit 2;ring heavy 0 stiff 1 holds 9" + last + ";"), 2);
            Due.due("press", x.press(0, 0, 0), 1);
            Due.due("press of the last one", x.press(1, 0, 0), -1);
            Due.due("gap of the last one", x.gap(1, 0, 0), -1);
            Due.due("stretch of the last one", x.stretch(1, 0, 0), 1);
            Due.due("opens of the last one", x.opens(1), -1);
            Due.due("most", x.most(), 30);
            Due.due("best", x.best(3, 2, 4), 30);
            Due.due("chosen of the last one", x.chosen(3, 2, 4, 1), -1);
        }
    }

    private static void wordsNumbersAndSigns() {
        Doc.says(5, "words (a .. z, 8 at most)");
        fails("a", 2, 0);
        fails("z", 2, 0);
        fails("`", 1, 0);
        fails("{", 1, 0);
        fails("A", 1, 0);
        fails("Z", 1, 0);
        fails("ringring", 2, 0);
        fails("ringringr", 1, 0);
        fails("ring heavyhea", 2, 5);
        fails("ring heavyheav", 1, 5);
        Doc.says(5, "N (1 to 4 digits)");
        holds("ring heavy 0 stiff 0001 holds 0000;", 1);
        holds("ring heavy 0020 stiff 0012 holds 9999 play 0099;", 1);
        fails("ring heavy 00000 stiff 1 holds 1;", 1, 11);
        fails("ring heavy 1 stiff 1 holds 10000;", 1, 27);
        fails("ring heavy 1 stiff 1 holds 000000009;", 1, 27);
        fails("ring heavy / stiff", 1, 11);
        fails("ring heavy : stiff", 1, 11);
        fails("ring heavy -1 stiff", 1, 11);
        Doc.says(5, "sign ;");
        fails(";", 2, 0);
        fails("ring heavy 1 stiff 1 holds 9:", 1, 28);
        fails("ring heavy 1 stiff 1 holds 9<", 1, 28);
        fails(RING + ";", 2, 29);
    }

    private static void blanks() {
        Doc.says(5, "blanks (32, 10) part them or not");
        holds("\nring\nheavy\n1\nstiff 1  holds \n9\n;\n", 1);
        holds("ring heavy1 stiff1 holds9 fit0;ring heavy1 stiff1 holds9;", 2);
        for (char sign : new char[] {0, 1, 8, 9, 11, 13, 31, 33, 127, 128, 138, 160, 255}) {
            fails("ring" + sign + "heavy 1 stiff 1 holds 9;", 1, 4);
            fails(sign + RING, 1, 0);
            fails(RING + sign, 1, 29);
        }
    }

    private static void asLongAsCanBe() {
        Doc.says(5, "each is as long as can be; no letter directly behind an N");
        fails("ringheav 1 stiff 1 holds 9;", 2, 0);
        fails("ringheavy 1 stiff 1 holds 9;", 1, 0);
        fails("rin g heavy 1 stiff 1 holds 9;", 2, 0);
        fails("ring heavy 1 0 stiff 1 holds 9;", 2, 13);
        Doc.says(5, "(what is none of these, a longer word, more digits, an N with a letter behind it: 1 at its first byte)");
        fails("ring heavy 1stiff 1 holds 9;", 1, 11);
        fails("ring heavy 9999z", 1, 11);
        fails("ring heavy 12345z", 1, 11);
        fails("ring heavy 1 stiff 1 holds 9fit 1;", 1, 27);
        fails("ring 1a", 1, 5);
        fails("ring heavy 1; ", 2, 12);
        fails("ring heavy 1#", 1, 12);
        fails("ring# heavy", 1, 4);
        fails("ring heavy 1\u00e9", 1, 12);
    }

    private static void firstByItsPlace() {
        Doc.says(5, "FAULTS, the first by its place (bytes from 0; the end: the text's length)");
        fails("r", 2, 0);
        fails("ring 5 #", 2, 5);
        fails("ring heavy 21 #", 4, 11);
        fails("ring # heavy 21", 1, 5);
        fails("ring", 2, 4);
        fails("ring \n ", 2, 7);
        fails("ring heavy", 2, 10);
        fails("ring heavy 1 stiff 1 holds 9 fit", 2, 32);
        fails("ring heavy 1 stiff 1 holds 9", 2, 28);
        fails(RING + "ring heavy 1 stiff 1 holds 9 ", 2, 58);
        Doc.says(5, "at one place the least: 1 no TOKEN; 2 one that can't stand there");
        fails("#", 1, 0);
        fails("99999", 1, 0);
        fails("9999", 2, 0);
        fails("ring heavy 1 stiff 1 holds fit", 2, 27);
        fails("ring 100 21", 2, 5);
        String five = RING + RING + RING + RING + RING;
        fails(five + "#", 1, 145);
        fails(five + "99999", 1, 145);
        fails(five + "9999", 2, 145);
        fails(five + "ringringr", 1, 145);
    }

    private static void pressAndGap() {
        Doc.says(6, "At a square of speed w (0 .. 900) the FIT f (0 ..) between RING f and the next one has a PRESS p of 0 or more.");
        WheelStore x = new WheelStore();
        Due.stack(x, FIVE);
        Due.due("press at 0", x.press(0, 0, 0), 5);
        Due.due("press at 0, lower", x.press(0, 0, 1), 2);
        Due.due("press at 5", x.press(0, 5, 0), 0);
        Due.due("press at 6", x.press(0, 6, 0), 0);
        Due.due("press at 900", x.press(0, 900, 0), 0);
        Due.due("press at 900, lower", x.press(0, 900, 1), 1);
        Doc.says(7, "No GAP is below 0, and where a GAP is above 0 the PRESS is 0.");
        Due.due("gap at 0", x.gap(0, 0, 0), 0);
        Due.due("gap at 4", x.gap(0, 4, 0), 0);
        Due.due("gap at 5", x.gap(0, 5, 0), 0);
        Due.due("gap at 5, lower", x.gap(0, 5, 1), 1);
        Due.due("gap at 6", x.gap(0, 6, 0), 1);
        Due.due("gap at 900", x.gap(0, 900, 0), 895);
        Due.stack(x, RING + RING);
        Due.due("like RINGS just touch: press", x.press(0, 900, 0), 0);
        Due.due("like RINGS just touch: gap", x.gap(0, 900, 0), 0);
    }

    private static void stretchOfTheOutermost() {
        Doc.says(8, "(heavy * w + PRESS of the FIT within it - PRESS of the FIT around it) / stiff (0 where there is none)");
        WheelStore x = new WheelStore();
        Due.stack(x, "ring heavy 20 stiff 1 holds 0;");
        Due.due("alone at 0", x.stretch(0, 0, 0), 0);
        Due.due("alone at 900", x.stretch(0, 900, 0), 18000);
        String light = "ring heavy 0 stiff 1 holds 9 fit 3;";
        Due.stack(x, light + light + light);
        Due.due("innermost: less what presses around it", x.stretch(0, 7, 0), -3);
        Due.due("between two that press alike", x.stretch(1, 7, 0), 0);
        Due.due("outermost: what presses within it", x.stretch(2, 7, 0), 3);
        Due.due("press", x.press(0, 7, 0), 3);
        Due.due("press", x.press(1, 7, 0), 3);
    }

    private static String five(String ring) {
        return ring + ring + ring + ring + ring;
    }

    private static void fiveOfTheGreatest() {
        Doc.says(8, "RINGS, 5 at most, from the inmost one outwards");
        WheelStore x = new WheelStore();
        Due.stack(x, five("ring heavy 20 stiff 12 holds 1698 fit 99;"));
        // like RINGS: each stands 99 outwards of the one within it, and the middle one where it would be alone
        int[] press = {2376, 3564, 3564, 2376};
        for (int w = 0; w <= 900; w += 900) {
            for (int fit = 0; fit < 4; fit++) {
                Due.due("press " + fit, x.press(fit, w, 0), press[fit]);
                Due.due("gap " + fit, x.gap(fit, w, 0), 0);
                Due.due("opens " + fit, x.opens(fit), -1);
            }
            for (int ring = 0; ring < 5; ring++) {
                Due.due("stretch " + ring, x.stretch(ring, w, 0), w / 12 * 20 + (ring - 2) * 99);
            }
        }
        Due.due("most", x.most(), 30);
        Due.stack(x, five("ring heavy 20 stiff 12 holds 1697 fit 99;"));
        Due.due("most of one less", x.most(), 29);
        Due.stack(x, five("ring heavy 20 stiff 1 holds 9999 fit 99;"));
        Due.due("20 * w + 198 is 9878 at speed 22", x.most(), 22);
        Due.stack(x, five("ring heavy 20 stiff 1 holds 9999 play 99;"));
        for (int fit = 0; fit < 4; fit++) {
            Due.due("gap " + fit, x.gap(fit, 900, 0), 99);
            Due.due("press " + fit, x.press(fit, 900, 0), 0);
            Due.due("opens " + fit, x.opens(fit), 0);
        }
        Due.due("best of the greatest", x.best(99, 98, 97), 22);
        Due.due("chosen of FIT 3", x.chosen(99, 98, 97, 3), 2);
    }

    private static void lowestTerms() {
        Doc.says(8, "All are fractions in lowest terms.");
        WheelStore x = new WheelStore();
        Due.stack(x, "ring heavy 6 stiff 4 holds 9;");
        Due.due("0 is 0 / 1", x.stretch(0, 0, 1), 1);
        Due.due("6 / 4", x.stretch(0, 1, 0), 3);
        Due.due("6 / 4, lower", x.stretch(0, 1, 1), 2);
        Due.due("24 / 4", x.stretch(0, 4, 0), 6);
        Due.due("24 / 4, lower", x.stretch(0, 4, 1), 1);
        Due.stack(x, FIVE);
        Doc.says(8, "likewise (it may be below 0)");
        Due.due("below 0", x.stretch(0, 4, 0), -1);
        Due.due("below 0, lower", x.stretch(0, 4, 1), 2);
        Due.due("below 0 at 0", x.stretch(0, 0, 0), -5);
        Due.due("just 0", x.stretch(0, 5, 0), 0);
        Due.due("just 0, lower", x.stretch(0, 5, 1), 1);
    }

    private static void placesThatCantBe() {
        WheelStore x = new WheelStore();
        cantBe(x, 0, 0, 0, "without RINGS");
        Due.stack(x, RING);
        Doc.says(6, "NONE if one can't be.");
        Due.due("press in one RING", x.press(0, 0, 0), -1);
        Due.due("gap in one RING", x.gap(0, 0, 0), -1);
        Due.due("stretch of one RING", x.stretch(0, 900, 1), 1);
        Due.stack(x, RING + RING + RING);
        for (int part = 0; part <= 1; part++) {
            for (int w : new int[] {0, 900}) {
                Due.due("press that can be", x.press(1, w, part), part);
                Due.due("gap that can be", x.gap(1, w, part), part);
                Due.due("stretch that can be", x.stretch(2, w, part) >= 0, true);
            }
        }
        for (int wrong : new int[] {-1, MIN, MAX, 3, 4, 5, 6}) {
            cantBe(x, wrong, 0, 0, "at " + wrong);
        }
        for (int wrong : new int[] {-1, 901, MIN, MAX}) {
            cantBe(x, 0, wrong, 0, "at the square " + wrong);
        }
        for (int wrong : new int[] {-1, 2, MIN, MAX}) {
            cantBe(x, 0, 0, wrong, "part " + wrong);
        }
        Doc.says(6, "NONE if one can't be.");
        Due.due("press around the last RING", x.press(2, 0, 0), -1);
        Doc.says(7, "GAP of a FIT: likewise.");
        Due.due("gap around the last RING", x.gap(2, 0, 0), -1);
        x.undo();
        cantBe(x, 2, 0, 0, "behind undo");
    }

    private static void cantBe(WheelStore x, int at, int w, int part, String what) {
        Doc.says(6, "upper part (0), lower part (1); NONE if one can't be.");
        Due.due("press " + what, x.press(at, w, part), -1);
        Doc.says(7, "GAP of a FIT: likewise.");
        Due.due("gap " + what, x.gap(at, w, part), -1);
        Doc.says(8, "-1000000000000 if one can't be.");
        Due.due("stretch " + what, x.stretch(at, w, part), -1000000000000L);
    }

    private static void opensAt(String inner, String outer, int w) {
        WheelStore x = new WheelStore();
        Due.stack(x, inner + outer);
        Due.due("opens of '" + inner + outer + "'", x.opens(0), w);
    }

    private static void opensAtTheLeast() {
        Doc.says(9, "A FIT OPENS at the least w at which its GAP is above 0.");
        String outer = "ring heavy 1 stiff 1 holds 9;";
        opensAt("ring heavy 0 stiff 1 holds 9 play 1;", outer, 0);
        opensAt("ring heavy 0 stiff 1 holds 9 fit 0;", outer, 1);
        opensAt("ring heavy 0 stiff 1 holds 9 fit 5;", outer, 6);
        // within it: 3/4 w. RINGS 1 and 2 as one: (11 w - 708) / 13, which is above by 32 from w = 899.2 on
        opensAt("ring heavy 3 stiff 4 holds 9 fit 32;", "ring heavy 3 stiff 1 holds 9 fit 59;ring heavy 8 stiff 12 holds 9;", 900);
        // it parts at 4, as RING 2 takes RING 1 along, and comes back at 14, as that is left behind
        WheelStore x = new WheelStore();
        Due.stack(x, "ring heavy 1 stiff 1 holds 99 play 14;ring heavy 0 stiff 1 holds 99 fit 99;ring heavy 20 stiff 1 holds 99;");
        Due.due("opens first", x.opens(0), 4);
        Due.due("gap at 3", x.gap(0, 3, 0), 0);
        Due.due("gap at 4", x.gap(0, 4, 1), 2);
        Due.due("gap at 14", x.gap(0, 14, 0), 0);
        Due.due("press at 15", x.press(0, 15, 1), 2);
        Due.due("the other opens", x.opens(1), 5);
        Doc.says(9, "NONE if there is none up to 900, or there is none such.");
        opensAt("ring heavy 0 stiff 1 holds 9 fit 74;", "ring heavy 1 stiff 12 holds 9;", 889);
        opensAt("ring heavy 0 stiff 1 holds 9 fit 75;", "ring heavy 1 stiff 12 holds 9;", -1);
        opensAt("ring heavy 1 stiff 1 holds 9;", "ring heavy 1 stiff 1 holds 9;", -1);
        opensAt("ring heavy 9 stiff 1 holds 9;", "ring heavy 1 stiff 1 holds 9;", -1);
        opensAt("ring heavy 9 stiff 1 holds 9 play 9;", "", -1);
        opensAt("", "", -1);
        for (int fit : new int[] {2, 3, 4, -1, MIN, MAX}) {
            Due.due("opens(" + fit + ")", x.opens(fit), -1);
        }
    }

    private static void mostIs(String text, int most) {
        WheelStore x = new WheelStore();
        Due.stack(x, text);
        Due.due("most of '" + text + "'", x.most(), most);
    }

    private static void mostAtItsEdges() {
        Doc.says(10, "MOST: the greatest speed v (0 .. 30) so that at each speed from 0 to v, w = v * v, no STRETCH is above its RING's holds");
        mostIs("ring heavy 1 stiff 1 holds 900;", 30);
        mostIs("ring heavy 1 stiff 1 holds 899;", 29);
        mostIs("ring heavy 1 stiff 1 holds 841;", 29);
        mostIs("ring heavy 1 stiff 1 holds 840;", 28);
        mostIs("ring heavy 1 stiff 1 holds 1;", 1);
        mostIs("ring heavy 1 stiff 1 holds 0;", 0);
        mostIs("ring heavy 0 stiff 1 holds 0;", 30);
        mostIs("ring heavy 5 stiff 2 holds 10;", 2);
        mostIs("ring heavy 1 stiff 1 holds 4;ring heavy 0 stiff 1 holds 9;", 2);
        Doc.says(10, "and no GAP is above 0");
        mostIs("ring heavy 0 stiff 1 holds 99 fit 9;ring heavy 1 stiff 1 holds 99;", 3);
        mostIs("ring heavy 0 stiff 1 holds 99 fit 8;ring heavy 1 stiff 1 holds 99;", 2);
        mostIs("ring heavy 0 stiff 1 holds 99;ring heavy 1 stiff 1 holds 99;", 0);
        mostIs("ring heavy 0 stiff 1 holds 0;ring heavy 0 stiff 1 holds 0;", 30);
        Doc.says(10, "NONE if it can't be at speed 0, or without RINGS.");
        mostIs("ring heavy 0 stiff 1 holds 99 play 1;ring heavy 0 stiff 1 holds 99;", -1);
        mostIs("ring heavy 0 stiff 1 holds 99 fit 99;ring heavy 0 stiff 1 holds 49;", -1);
        mostIs("ring heavy 0 stiff 1 holds 0 fit 99;ring heavy 0 stiff 1 holds 50;", 30);
        mostIs("", -1);
        Due.due("most of a new one", new WheelStore().most(), -1);
    }

    private static void bestOfNone() {
        Doc.says(11, "MOST by BEST (NONE if none can be at speed 0, or without RINGS; -2 if a fit can't be).");
        WheelStore x = new WheelStore();
        Due.due("best without RINGS", x.best(1, 2, 3), -1);
        Due.due("best without RINGS of a fit that can't be", x.best(1, 2, 100), -2);
        Due.stack(x, "ring heavy 1 stiff 1 holds 16 fit 7;");
        Due.due("best of one RING", x.best(-1, -2, -3), 4);
        String light = "ring heavy 0 stiff 1 holds 99;";
        Due.stack(x, light + light);
        Due.due("none can be", x.best(-1, -2, -3), -1);
        Due.due("the third can be", x.best(-99, -1, 0), 30);
        Due.due("the edges", x.best(-99, -99, 99), 30);
        for (int fit : new int[] {-100, 100, MIN, MAX}) {
            Due.due("best of " + fit, x.best(fit, 0, 0), -2);
            Due.due("best of " + fit, x.best(0, fit, 0), -2);
            Due.due("best of " + fit, x.best(0, 0, fit), -2);
        }
        Doc.says(11, "(a STACK that can't be at speed 0: below all)");
        Due.stack(x, "ring heavy 1 stiff 1 holds 0;ring heavy 1 stiff 1 holds 0;");
        Due.due("speed 0 alone is more than none", x.best(-1, 5, 0), 0);
        Due.due("chosen", x.chosen(-1, 5, 0, 0), 2);
        Due.due("none can be", x.best(-1, 5, 1), -1);
        Doc.says(11, "BEST of three fits (-99 .. 99 each): one of them for each FIT");
        Due.due("those of the STACK are none of the three", x.most(), 0);
    }

    private static void bestOfLikeOnes() {
        Doc.says(12, "of like ones the least sum of fits");
        WheelStore x = new WheelStore();
        // MOST is the root of 2 * FIT 0 + FIT 1: of 6, 5, 4 (as 2, 0) and 4 (as 1, 2) it is 2
        Due.stack(x, "ring heavy 0 stiff 1 holds 99;ring heavy 1 stiff 1 holds 99;ring heavy 0 stiff 1 holds 99;");
        Due.due("best", x.best(0, 1, 2), 2);
        Due.due("chosen 0", x.chosen(0, 1, 2, 0), 2);
        Due.due("chosen 1", x.chosen(0, 1, 2, 1), 0);
        Doc.says(12, "then the first, FIT by FIT, as the three are told");
        String light = "ring heavy 0 stiff 1 holds 99;";
        Due.stack(x, light + light + light);
        // -1 and 3, 1 and 1, 3 and -1 can be; with 1 and -1 or two of -1 there is a GAP
        int[][] three = {{-1, 1, 3}, {3, 1, -1}, {1, -1, 3}, {1, 3, -1}, {0, 0, 0}, {1, 0, 0}, {1, 1, 0}, {0, 1, 0}};
        int[][] due = {{0, 2}, {0, 2}, {0, 0}, {0, 0}, {0, 0}, {1, 1}, {2, 2}, {0, 0}};
        for (int n = 0; n < three.length; n++) {
            for (int fit = 0; fit < 2; fit++) {
                String what = three[n][0] + ", " + three[n][1] + ", " + three[n][2] + " at " + fit;
                Due.due("chosen " + what, x.chosen(three[n][0], three[n][1], three[n][2], fit), due[n][fit]);
            }
            Due.due("best", x.best(three[n][0], three[n][1], three[n][2]), 30);
        }
    }

    private static void chosenOfNone() {
        Doc.says(12, "Which of the three (0 .. 2) a FIT has by it; NONE likewise, or if there is none such.");
        WheelStore x = new WheelStore();
        Due.due("chosen without RINGS", x.chosen(1, 2, 3, 0), -1);
        Due.stack(x, RING);
        Due.due("chosen of one RING", x.chosen(1, 2, 3, 0), -1);
        String light = "ring heavy 0 stiff 1 holds 99;";
        Due.stack(x, light + light);
        Due.due("chosen as none can be", x.chosen(-1, -2, -3, 0), -1);
        Due.due("chosen", x.chosen(-1, -2, 0, 0), 2);
        for (int fit : new int[] {-1, 1, 2, MIN, MAX}) {
            Due.due("chosen at " + fit, x.chosen(1, 2, 3, fit), -1);
        }
        for (int fit : new int[] {-100, 100, MIN, MAX}) {
            Due.due("chosen of " + fit, x.chosen(fit, 0, 0, 0), -1);
            Due.due("chosen of " + fit, x.chosen(0, fit, 0, 0), -1);
            Due.due("chosen of " + fit, x.chosen(0, 0, fit, 0), -1);
        }
        Due.due("chosen of the edges", x.chosen(99, -99, 99, 0), 0);
    }
}
