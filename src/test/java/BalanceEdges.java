/** The edges that the document names for HOLES, SHAKE and DRAG: promises 29 to 34. */
final class BalanceEdges {
    private static final int MIN = Integer.MIN_VALUE;
    private static final int MAX = Integer.MAX_VALUE;

    private BalanceEdges() {
    }

    static void run() {
        holesThatCanBe();
        nineHoles();
        shakesThatCanBe();
        offOfNoHoles();
        offAtItsEdges();
        fewestInAll();
        firstByHoles();
        noMoreThanTheyTake();
        weightsOfNone();
        dragsThatCanBe();
        aloneAtOnce();
        aloneNever();
        loseAllIfItHasLess();
        greatestSpeedWithSoMuch();
        questionsThatCantBe();
    }

    private static void holesThatCanBe() {
        Doc.says(29, "at x, y (-99 .. 99 each) take 0 .. most (1, 2) WEIGHTS of 1");
        WheelStore x = new WheelStore();
        int[][] can = {{-99, -99, 1}, {99, 99, 2}, {-99, 99, 1}, {99, -99, 2}, {0, 0, 1}};
        for (int n = 0; n < can.length; n++) {
            Due.due("hole " + n, x.hole(can[n][0], can[n][1], can[n][2]), n);
        }
        Doc.says(29, "A HOLE: a number; NONE, doing nothing, if one can't be, or there are 9.");
        int digest = x.digest();
        int[][] wrong = {{-100, 0, 1}, {100, 0, 1}, {0, -100, 1}, {0, 100, 1}, {0, 0, 0}, {0, 0, 3}, {0, 0, -1}, {MIN, 0, 1},
            {MAX, 0, 1}, {0, MIN, 1}, {0, MAX, 1}, {0, 0, MIN}, {0, 0, MAX}};
        for (int[] w : wrong) {
            Due.due("hole " + w[0] + ", " + w[1] + ", " + w[2], x.hole(w[0], w[1], w[2]), -1);
        }
        Due.due("as ahead", x.digest(), digest);
        Due.due("no ACT", x.about(3), 5);
        Due.due("HOLES", x.about(2), 5);
    }

    private static void nineHoles() {
        Doc.says(29, "HOLES, 9 at most");
        WheelStore x = new WheelStore();
        for (int n = 0; n < 9; n++) {
            Due.due("hole", x.hole(n, 0, 1), n);
        }
        int digest = x.digest();
        Due.due("a tenth", x.hole(0, 0, 1), -1);
        Due.due("a tenth that can't be", x.hole(100, 0, 1), -1);
        Due.due("as ahead", x.digest(), digest);
        Due.due("no ACT", x.about(3), 9);
        Due.due("weights of the ninth", x.weights(8), 0);
        x.undo();
        Due.due("weights of the ninth behind undo", x.weights(8), -1);
        Due.due("a ninth once more", x.hole(8, 0, 1), 8);
        Due.due("it is the same", x.digest(), digest);
    }

    private static void shakesThatCanBe() {
        Doc.says(30, "SHAKE is x, y (-999 .. 999; 0, 0 at first).");
        WheelStore x = new WheelStore();
        int digest = x.digest();
        Due.due("shake 0, 0", x.shake(0, 0), true);
        Due.due("as at first", x.digest(), digest);
        for (int[] s : new int[][] {{-999, 0}, {999, 0}, {0, -999}, {0, 999}}) {
            Due.due("shake " + s[0] + ", " + s[1], x.shake(s[0], s[1]), true);
            Due.due("off", x.off(), 998001);
        }
        Doc.says(30, "SHAKE: true; false, doing nothing, if it can't be.");
        digest = x.digest();
        for (int[] w : new int[][] {{-1000, 0}, {1000, 0}, {0, -1000}, {0, 1000}, {MIN, 0}, {MAX, 0}, {0, MIN}, {0, MAX}}) {
            Due.due("shake " + w[0] + ", " + w[1], x.shake(w[0], w[1]), false);
        }
        Due.due("as ahead", x.digest(), digest);
        Due.due("no ACT", x.about(3), 5);
    }

    private static void offOfNoHoles() {
        Doc.says(31, "OFF: the square of the length of SHAKE and all WEIGHTS at their HOLES together.");
        WheelStore x = new WheelStore();
        Due.due("off of a new one", x.off(), 0);
        x.shake(3, -4);
        Due.due("off of SHAKE alone", x.off(), 25);
        x.shake(-999, 999);
        Due.due("off of the farthest SHAKE", x.off(), 1996002);
    }

    private static void offAtItsEdges() {
        Doc.says(31, "OFF by STILL.");
        WheelStore x = new WheelStore();
        x.hole(1, 0, 2);
        Due.due("no WEIGHT is least", x.off(), 0);
        x.shake(-1, 0);
        Due.due("one", x.off(), 0);
        x.shake(-2, 0);
        Due.due("two", x.off(), 0);
        x.shake(-3, 0);
        Due.due("no more than two", x.off(), 1);
        x.shake(5, 0);
        Due.due("none helps", x.off(), 25);
        x.shake(0, -2);
        Due.due("across", x.off(), 4);
        Due.due("none helps", x.weights(0), 0);
        x = new WheelStore();
        for (int n = 0; n < 9; n++) {
            x.hole(99, -99, 2);
        }
        x.shake(-999, 999);
        Due.due("ten of eighteen", x.off(), 162);
        x.shake(999, -999);
        Due.due("none helps", x.off(), 1996002);
    }

    private static void fewestInAll() {
        Doc.says(32, "of like ones the fewest in all");
        WheelStore x = new WheelStore();
        x.hole(0, 0, 2);
        x.hole(1, 0, 2);
        x.hole(2, 0, 1);
        x.shake(-2, 0);
        Due.due("where it does nothing", x.weights(0), 0);
        Due.due("not two of 1", x.weights(1), 0);
        Due.due("but one of 2", x.weights(2), 1);
        x.shake(-3, 0);
        Due.due("one of 1", x.weights(1), 1);
        Due.due("one of 2", x.weights(2), 1);
        x.shake(-4, 0);
        Due.due("two of 1", x.weights(1), 2);
        x = new WheelStore();
        // 1 this way or 1 that way: OFF is 1 by none and by one
        x.hole(2, 0, 1);
        x.shake(-1, 0);
        Due.due("none is fewer than one", x.weights(0), 0);
        Due.due("off", x.off(), 1);
    }

    private static void firstByHoles() {
        Doc.says(32, "then the first by HOLES");
        WheelStore x = new WheelStore();
        x.hole(1, 0, 1);
        x.hole(1, 0, 2);
        x.hole(1, 0, 1);
        int[][] due = {{0, 0, 0}, {0, 0, 1}, {0, 1, 1}, {0, 2, 1}, {1, 2, 1}, {1, 2, 1}};
        for (int n = 0; n < due.length; n++) {
            x.shake(-n, 0);
            for (int hole = 0; hole < 3; hole++) {
                Due.due("weights(" + hole + ") against " + n, x.weights(hole), due[n][hole]);
            }
        }
    }

    private static void noMoreThanTheyTake() {
        Doc.says(32, "WEIGHTS in a HOLE by STILL");
        WheelStore x = new WheelStore();
        x.hole(10, 0, 1);
        x.hole(0, 10, 2);
        x.shake(-99, -99);
        Due.due("of one that takes 1", x.weights(0), 1);
        Due.due("of one that takes 2", x.weights(1), 2);
        Due.due("off", x.off(), 89 * 89 + 79 * 79);
    }

    private static void weightsOfNone() {
        Doc.says(32, "NONE if there is none such.");
        WheelStore x = new WheelStore();
        Due.due("weights(0) of a new one", x.weights(0), -1);
        x.hole(1, 1, 1);
        Due.due("weights(0)", x.weights(0), 0);
        for (int hole : new int[] {-1, 1, 2, 8, 9, MIN, MAX}) {
            Due.due("weights(" + hole + ")", x.weights(hole), -1);
        }
    }

    private static void dragsThatCanBe() {
        Doc.says(33, "DRAG of a speed (0 .. 30) is what is lost in a TICK (0 .. 999; 0 at first).");
        WheelStore x = new WheelStore();
        int digest = x.digest();
        for (int speed = 0; speed <= 30; speed++) {
            Due.due("drag of 0", x.drag(speed, 0), true);
        }
        Due.due("as at first", x.digest(), digest);
        Due.due("drag of speed 0", x.drag(0, 999), true);
        Due.due("drag of speed 30", x.drag(30, 999), true);
        Doc.says(33, "DRAG of a speed: true; false, doing nothing, if it can't be.");
        digest = x.digest();
        for (int[] w : new int[][] {{-1, 0}, {31, 0}, {0, -1}, {0, 1000}, {MIN, 0}, {MAX, 0}, {0, MIN}, {0, MAX}}) {
            Due.due("drag " + w[0] + ", " + w[1], x.drag(w[0], w[1]), false);
        }
        Due.due("as ahead", x.digest(), digest);
        Due.due("no ACT", x.about(3), 33);
    }

    private static void aloneAtOnce() {
        Doc.says(34, "How many TICKS a wheel is ALONE from a speed until its speed is another one, or less (0 .. 30 each)");
        WheelStore x = new WheelStore();
        Due.due("it has it", x.alone(1, 30, 30), 0);
        Due.due("it is at rest", x.alone(1, 0, 0), 0);
        Due.due("it has less", x.alone(99, 0, 30), 0);
        x.drag(30, 1);
        Due.due("it has it", x.alone(99, 30, 30), 0);
        Due.due("one less", x.alone(99, 30, 29), 1);
        x.drag(30, 999);
        Due.due("much less", x.alone(1, 30, 29), 1);
        Due.due("much less", x.alone(1, 30, 1), 1);
    }

    private static void aloneNever() {
        Doc.says(34, "NONE if it never is, or one can't be.");
        WheelStore x = new WheelStore();
        Due.due("without DRAG", x.alone(1, 1, 0), -1);
        Due.due("without DRAG", x.alone(99, 30, 29), -1);
        x.drag(3, 1);
        x.drag(1, 1);
        Due.due("to speed 2", x.alone(1, 3, 2), 1);
        Due.due("speed 2 has no DRAG", x.alone(1, 3, 1), -1);
        Due.due("speed 2 has no DRAG", x.alone(1, 2, 1), -1);
        x.drag(3, 6);
        Due.due("it passes over speed 2", x.alone(1, 3, 1), 1);
        Due.due("and to rest", x.alone(1, 3, 0), 4);
        x.drag(3, 5);
        Due.due("it is just at speed 2", x.alone(1, 3, 1), -1);
    }

    private static void loseAllIfItHasLess() {
        Doc.says(34, "ALONE it loses in each TICK the DRAG of its speed (all, if it has less).");
        WheelStore x = new WheelStore();
        x.drag(30, 900);
        Due.due("just all", x.alone(1, 30, 0), 1);
        x.drag(30, 901);
        Due.due("one more than all", x.alone(1, 30, 0), 1);
        x.drag(30, 899);
        Due.due("all but one", x.alone(1, 30, 0), -1);
        x.drag(1, 999);
        Due.due("then the last one", x.alone(1, 30, 0), 2);
        x.drag(0, 999);
        Due.due("at rest it loses nothing", x.alone(1, 0, 0), 0);
        // 4, 3, 0: of the 3 that it has at speed 1 it would lose 5
        x.drag(2, 1);
        x.drag(1, 5);
        Due.due("4, 3, 0", x.alone(1, 2, 0), 2);
    }

    private static void greatestSpeedWithSoMuch() {
        Doc.says(34, "its speed with so much is the greatest v by which this is no more");
        WheelStore x = new WheelStore();
        // of 9 it has 4 then, just what speed 2 has; of 18 it has 13, 8 and 3
        x.drag(3, 5);
        x.drag(2, 5);
        x.drag(1, 5);
        Due.due("9, 4", x.alone(1, 3, 2), 1);
        Due.due("9, 4, 0", x.alone(1, 3, 1), 2);
        Due.due("18, 13", x.alone(2, 3, 2), 1);
        Due.due("18, 13, 8, 3", x.alone(2, 3, 1), 3);
        Due.due("18, 13, 8, 3, 0", x.alone(2, 3, 0), 4);
        // 99 * 900 less 99 * 841 is lost at speed 30, and one of it stays
        x.drag(30, 1);
        Due.due("the first of 5841", x.alone(99, 30, 29), 1);
        x.drag(29, 1);
        Due.due("down to 99 * 841 less 1", x.alone(99, 30, 28), 99 * 59 + 1);
    }

    private static void questionsThatCantBe() {
        Doc.says(34, "What a wheel of so much heavy (1 .. 99) has at a speed v is heavy * v * v");
        WheelStore x = new WheelStore();
        x.drag(1, 1);
        Due.due("heavy 1", x.alone(1, 1, 0), 1);
        Due.due("heavy 99: 98 are too few for speed 1", x.alone(99, 1, 0), 1);
        Doc.says(34, "NONE if it never is, or one can't be.");
        int[][] wrong = {{0, 1, 0}, {100, 1, 0}, {-1, 1, 0}, {1, -1, 0}, {1, 31, 0}, {1, 0, -1}, {1, 0, 31}, {1, 31, 31}, {1, -1, -1},
            {MIN, 1, 0}, {MAX, 1, 0}, {1, MIN, 0}, {1, MAX, 0}, {1, 1, MIN}, {1, 1, MAX}};
        for (int[] w : wrong) {
            Due.due("alone " + w[0] + ", " + w[1] + ", " + w[2], x.alone(w[0], w[1], w[2]), -1);
        }
    }
}
