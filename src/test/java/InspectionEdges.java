/** The edges that the document names for CRACKS, costs and LOOKS: promises 35 to 38. */
final class InspectionEdges {
    private static final int MIN = Integer.MIN_VALUE;
    private static final int MAX = Integer.MAX_VALUE;

    private InspectionEdges() {
    }

    static void run() {
        newOne();
        cracksThatCanBe();
        cracksThatCantBe();
        costsThatCanBe();
        whereItBreaks();
        whereItIsFound();
        burstAheadOfLook();
        growsByNoMoreThanTwo();
        lowestTerms();
        questionsThatCantBe();
        looksAtTheirEdges();
        looksOfLikeCost();
    }

    private static void newOne() {
        Doc.says(35, "with chances of grow0, grow1 and all the rest in eight (8, 0 and 0 at first)");
        WheelStore x = new WheelStore();
        int digest = x.digest();
        Due.due("cracks(8, 0, 20, 20)", x.cracks(8, 0, 20, 20), true);
        Due.due("as at first", x.digest(), digest);
        Doc.says(36, "(Costs 0 .. 9999, 0 at first.)");
        Due.due("costs(0, 0, 0)", x.costs(0, 0, 0), true);
        Due.due("as at first", x.digest(), digest);
        Due.due("both are ACTS", x.about(3), 2);
        x.costs(3, 100, 1000);
        Doc.says(37, "begun with a new ring");
        Due.due("it never grows", x.cost(10, 0, 0), 0);
        Due.due("it never grows, lower", x.cost(10, 0, 1), 1);
        Due.due("it is never found", x.cost(10, 1023, 0), 30);
    }

    private static void cracksThatCanBe() {
        Doc.says(35, "Chances of a CRACK (grow0 + grow1 no more than 8), breaks, seen");
        WheelStore x = new WheelStore();
        for (int[] c : new int[][] {{0, 0, 1, 1}, {8, 0, 20, 1}, {0, 8, 1, 20}, {4, 4, 20, 20}, {7, 1, 1, 1}, {1, 7, 20, 20}}) {
            Due.due("cracks " + c[0] + ", " + c[1] + ", " + c[2] + ", " + c[3], x.cracks(c[0], c[1], c[2], c[3]), true);
        }
        Due.due("ACTS", x.about(3), 6);
    }

    private static void cracksThatCantBe() {
        Doc.says(35, "true; false, doing nothing, if one can't be.");
        WheelStore x = new WheelStore();
        x.cracks(1, 2, 3, 4);
        int digest = x.digest();
        int[][] wrong = {{-1, 0, 1, 1}, {0, -1, 1, 1}, {9, 0, 1, 1}, {0, 9, 1, 1}, {5, 4, 1, 1}, {8, 1, 1, 1}, {9, -1, 1, 1},
            {-1, 9, 1, 1}, {0, 0, 0, 1}, {0, 0, 21, 1}, {0, 0, 1, 0}, {0, 0, 1, 21}, {0, 0, -1, 1}, {0, 0, 1, -1}, {MIN, 0, 1, 1},
            {MAX, 0, 1, 1}, {0, MIN, 1, 1}, {0, MAX, 1, 1}, {MAX, MAX, 1, 1}, {MIN, MIN, 1, 1}, {MAX, MIN, 1, 1}, {0, 0, MIN, 1},
            {0, 0, MAX, 1}, {0, 0, 1, MIN}, {0, 0, 1, MAX}};
        for (int[] w : wrong) {
            Due.due("cracks " + w[0] + ", " + w[1] + ", " + w[2] + ", " + w[3], x.cracks(w[0], w[1], w[2], w[3]), false);
        }
        Due.due("as ahead", x.digest(), digest);
        Due.due("no ACT", x.about(3), 1);
    }

    private static void costsThatCanBe() {
        Doc.says(36, "Costs: likewise.");
        WheelStore x = new WheelStore();
        for (int[] c : new int[][] {{0, 0, 0}, {9999, 0, 0}, {0, 9999, 0}, {0, 0, 9999}, {9999, 9999, 9999}}) {
            Due.due("costs " + c[0] + ", " + c[1] + ", " + c[2], x.costs(c[0], c[1], c[2]), true);
        }
        int digest = x.digest();
        int[][] wrong = {{-1, 0, 0}, {10000, 0, 0}, {0, -1, 0}, {0, 10000, 0}, {0, 0, -1}, {0, 0, 10000}, {MIN, 0, 0}, {MAX, 0, 0},
            {0, MIN, 0}, {0, MAX, 0}, {0, 0, MIN}, {0, 0, MAX}};
        for (int[] w : wrong) {
            Due.due("costs " + w[0] + ", " + w[1] + ", " + w[2], x.costs(w[0], w[1], w[2]), false);
        }
        Due.due("as ahead", x.digest(), digest);
        Due.due("no ACT", x.about(3), 5);
        Due.due("ten looks", x.cost(10, 1023, 0), 99990);
    }

    private static void costIs(WheelStore x, int rounds, int looks, long cost) {
        Due.due("cost " + rounds + ", " + looks, x.cost(rounds, looks, 0), cost);
        Due.due("cost " + rounds + ", " + looks + ", lower", x.cost(rounds, looks, 1), 1);
    }

    private static void whereItBreaks() {
        Doc.says(37, "Where it is breaks (1 .. 20; 20) or more then, the ring bursts: that costs burst, and it is new.");
        WheelStore x = new WheelStore();
        x.costs(0, 0, 100);
        x.cracks(0, 8, 3, 20);
        costIs(x, 2, 0, 0);
        costIs(x, 3, 0, 100);
        costIs(x, 5, 0, 100);
        costIs(x, 6, 0, 200);
        x.cracks(0, 0, 3, 20);
        costIs(x, 1, 0, 0);
        costIs(x, 2, 0, 100);
        costIs(x, 3, 0, 100);
        costIs(x, 4, 0, 200);
        x.cracks(0, 8, 1, 20);
        costIs(x, 10, 0, 1000);
        x.cracks(0, 0, 1, 20);
        costIs(x, 10, 0, 1000);
        x.cracks(8, 0, 1, 20);
        costIs(x, 10, 0, 0);
        x.cracks(0, 0, 20, 20);
        costIs(x, 9, 0, 0);
        costIs(x, 10, 0, 100);
    }

    private static void whereItIsFound() {
        Doc.says(37, "Then, if one LOOKS, that costs look, and a crack of seen (1 .. 20; 20) or more is found: that costs ring, and it is new.");
        WheelStore x = new WheelStore();
        x.costs(1, 10, 1000);
        x.cracks(0, 8, 20, 2);
        costIs(x, 1, 1, 1);
        costIs(x, 2, 2, 11);
        costIs(x, 2, 3, 12);
        costIs(x, 3, 4, 11);
        costIs(x, 4, 6, 12);
        costIs(x, 4, 10, 22);
        x.cracks(0, 8, 20, 1);
        costIs(x, 1, 1, 11);
        costIs(x, 10, 1023, 110);
        x.cracks(0, 8, 20, 20);
        costIs(x, 10, 1023, 10);
        x.cracks(0, 0, 20, 18);
        costIs(x, 9, 256, 11);
        costIs(x, 9, 128, 1);
        x.cracks(0, 0, 20, 19);
        costIs(x, 9, 256, 1);
        // at 19 behind ten ROUNDS by 1 once and 2 else: 10 * 7 ^ 9 of 8 ^ 10
        x.costs(0, 1, 0);
        x.cracks(0, 1, 20, 19);
        Due.due("at 19", x.cost(10, 512, 0), 201768035);
        Due.due("at 19, lower", x.cost(10, 512, 1), 1L << 29);
        x.cracks(0, 1, 20, 20);
        Due.due("19 are not seen", x.cost(10, 512, 0), 0);
    }

    private static void burstAheadOfLook() {
        Doc.says(37, "Then, if one LOOKS, that costs look");
        WheelStore x = new WheelStore();
        x.costs(1, 10, 100);
        x.cracks(0, 8, 2, 1);
        costIs(x, 2, 2, 101);
        costIs(x, 2, 1, 11);
        costIs(x, 3, 1, 111);
        x.cracks(0, 8, 1, 1);
        costIs(x, 1, 1, 101);
        x.cracks(0, 8, 1, 20);
        costIs(x, 1, 1, 101);
    }

    private static void growsByNoMoreThanTwo() {
        Doc.says(37, "In a ROUND it grows by 0, 1 or 2");
        WheelStore x = new WheelStore();
        x.costs(0, 0, 8);
        x.cracks(5, 2, 1, 20);
        costIs(x, 1, 0, 3);
        x.cracks(5, 2, 2, 20);
        costIs(x, 1, 0, 1);
        x.cracks(5, 2, 3, 20);
        costIs(x, 1, 0, 0);
        // 2 or more behind two ROUNDS: 4 / 64 by 1 and 1, 10 / 64 by 0 and 2, 5 / 64 by more
        x.costs(0, 64, 0);
        x.cracks(5, 2, 20, 2);
        costIs(x, 2, 2, 19);
    }

    private static void lowestTerms() {
        Doc.says(37, "what is to be looked for, as a fraction in lowest terms");
        WheelStore x = new WheelStore();
        x.cracks(6, 2, 1, 1);
        x.costs(0, 0, 1);
        Due.due("2 / 8", x.cost(1, 0, 0), 1);
        Due.due("2 / 8, lower", x.cost(1, 0, 1), 4);
        x.cracks(7, 1, 1, 1);
        Due.due("1 / 8", x.cost(1, 0, 1), 8);
        Due.due("2 / 8 in two ROUNDS", x.cost(2, 0, 1), 4);
        x.cracks(7, 1, 10, 1);
        Due.due("1 of 8 each time in ten ROUNDS", x.cost(10, 0, 0), 1);
        Due.due("1 of 8 each time in ten ROUNDS, lower", x.cost(10, 0, 1), 1L << 30);
        x.costs(9999, 9999, 9999);
        x.cracks(0, 1, 1, 1);
        Due.due("the most of all", x.cost(10, 1023, 0), 199980);
    }

    private static void questionsThatCantBe() {
        Doc.says(37, "NONE if one can't be (LOOKS beyond the ROUNDS, too).");
        WheelStore x = new WheelStore();
        x.costs(1, 1, 1);
        for (int rounds = 1; rounds <= 10; rounds++) {
            Due.due("all LOOKS of " + rounds, x.cost(rounds, (1 << rounds) - 1, 0), rounds);
            Due.due("LOOKS beyond " + rounds, x.cost(rounds, 1 << rounds, 0), -1);
            Due.due("LOOKS beyond " + rounds + ", lower", x.cost(rounds, 1 << rounds, 1), -1);
        }
        int[][] wrong = {{0, 0, 0}, {11, 0, 0}, {-1, 0, 0}, {32, 0, 0}, {33, 0, 0}, {MIN, 0, 0}, {MAX, 0, 0}, {1, -1, 0}, {10, -1, 0},
            {10, 1024, 0}, {10, MIN, 0}, {10, MAX, 0}, {1, 0, -1}, {1, 0, 2}, {1, 0, MIN}, {1, 0, MAX}};
        for (int[] w : wrong) {
            Due.due("cost " + w[0] + ", " + w[1] + ", " + w[2], x.cost(w[0], w[1], w[2]), -1);
        }
    }

    private static void looksAtTheirEdges() {
        Doc.says(38, "LOOKS that are best; NONE if there are no such ROUNDS.");
        WheelStore x = new WheelStore();
        for (int rounds : new int[] {0, -1, 11, 32, MIN, MAX}) {
            Due.due("looks(" + rounds + ")", x.looks(rounds), -1);
        }
        Due.due("one ROUND", x.looks(1), 0);
        Due.due("ten ROUNDS", x.looks(10), 0);
        // at 2 it bursts: it is found at 1 in each ROUND but the last, as it is new then
        x.cracks(0, 8, 2, 1);
        x.costs(1, 1, 9999);
        Due.due("one ROUND", x.looks(1), 0);
        Due.due("two ROUNDS", x.looks(2), 1);
        Due.due("ten ROUNDS", x.looks(10), 511);
        x.costs(9999, 9999, 1);
        Due.due("looks are dear", x.looks(10), 0);
    }

    private static void looksOfLikeCost() {
        Doc.says(38, "LOOKS that are best: of the least COST; of like ones the fewest; then the least number.");
        WheelStore x = new WheelStore();
        x.cracks(0, 8, 3, 1);
        x.costs(0, 0, 5);
        Due.due("in ROUND 0 or 1 of three: the least number", x.looks(3), 1);
        Due.due("of four: ROUND 1 alone is the fewest", x.looks(4), 2);
        x.costs(0, 0, 0);
        Due.due("none is the fewest", x.looks(4), 0);
        // a look and a new ring cost what a burst costs
        x.cracks(0, 8, 2, 1);
        x.costs(2, 3, 5);
        Due.due("none is the fewest", x.looks(2), 0);
        x.costs(2, 2, 5);
        Due.due("one is of less cost", x.looks(2), 1);
        // ROUNDS 0, 3, 4, 6 cost what 0, 1, 5, 6 do: the least number is not the one that looks earliest
        x.cracks(3, 2, 3, 2);
        x.costs(267, 678, 2728);
        for (int looks : new int[] {89, 99}) {
            Due.due("cost 8, " + looks, x.cost(8, looks, 0), 5758574563L);
            Due.due("cost 8, " + looks + ", lower", x.cost(8, looks, 1), 1048576);
        }
        Due.due("four ROUNDS of eight: the least number", x.looks(8), 89);
    }
}
