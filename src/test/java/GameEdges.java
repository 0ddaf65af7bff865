/** The edges that the document names for THE GAME: promises 13 to 20. */
final class GameEdges {
    private static final int MIN = Integer.MIN_VALUE;
    private static final int MAX = Integer.MAX_VALUE;

    private GameEdges() {
    }

    static void run() {
        wheelsThatCanBe();
        threeWheels();
        wheelEndsThePlay();
        worstOfNothing();
        worstAtItsEdges();
        questionsThatCantBe();
        leastCall();
        firstGive();
        givesNoMore();
        playsThatBegin();
        chargesGrow();
        movesThatCantBe();
        eightMoves();
        playTells();
        blameOfNone();
        blameIsNeverBelow();
    }

    private static void wheelsThatCanBe() {
        Doc.says(13, "WHEELS, 3 at most, with room (0 .. 6) and rate (1 .. 6).");
        for (int[] w : new int[][] {{0, 1}, {0, 6}, {6, 1}, {6, 6}}) {
            WheelStore x = new WheelStore();
            Due.due("wheel " + w[0] + ", " + w[1], x.wheel(w[0], w[1]), 0);
            Due.due("its room", x.worst(1, 1, w[0], 0, 0) >= 0, true);
            Due.due("beyond its room", x.worst(1, 1, w[0] + 1, 0, 0), -1);
        }
        Doc.says(13, "a number; NONE, doing nothing, if one can't be, or there are 3.");
        WheelStore x = new WheelStore();
        int digest = x.digest();
        for (int[] w : new int[][] {{-1, 1}, {7, 1}, {1, 0}, {1, 7}, {1, -1}, {MIN, 1}, {MAX, 1}, {1, MIN}, {1, MAX}}) {
            Due.due("wheel " + w[0] + ", " + w[1], x.wheel(w[0], w[1]), -1);
        }
        Due.due("no WHEEL", x.about(1), 0);
        Due.due("no ACT", x.about(3), 0);
        Due.due("as ahead", x.digest(), digest);
    }

    private static void threeWheels() {
        Doc.says(13, "a number; NONE, doing nothing, if one can't be, or there are 3.");
        WheelStore x = new WheelStore();
        for (int n = 0; n < 3; n++) {
            Due.due("wheel", x.wheel(n, n + 1), n);
        }
        x.begin(2, 2, 0, 1, 2);
        x.move(1, 1);
        int digest = x.digest();
        Due.due("a fourth", x.wheel(1, 1), -1);
        Due.due("a fourth that can't be", x.wheel(7, 7), -1);
        Due.due("WHEELS", x.about(1), 3);
        Due.due("ACTS", x.about(3), 5);
        Due.due("as ahead, with its MOVE", x.digest(), digest);
        Due.due("MOVES", x.play(0), 1);
        x.undo();
        x.undo();
        x.undo();
        Due.due("a third once more", x.wheel(6, 6), 2);
    }

    private static void wheelEndsThePlay() {
        Doc.says(13, "(a PLAY's MOVES are none then, and it begins with 0 of all)");
        WheelStore x = new WheelStore();
        x.wheel(2, 1);
        x.begin(3, 4, 2, 0, 0);
        x.move(2, 100);
        x.wheel(0, 1);
        for (int what = 0; what <= 6; what++) {
            Due.due("play(" + what + ")", x.play(what), 0);
        }
        Due.due("no TICKS are left", x.move(0, 0), false);
        Due.due("blame", x.blame(0, 0), -1);
        WheelStore other = new WheelStore();
        other.wheel(2, 1);
        other.wheel(0, 1);
        Due.due("as without a PLAY", x.digest(), other.digest());
        x.undo();
        Due.due("MOVES behind undo", x.play(0), 1);
        Due.due("TICKS behind undo", x.play(2), 2);
        Due.due("CALLS behind undo", x.play(3), 2);
        Due.due("charge behind undo", x.play(4), 1);
        x.begin(8, 12, 2, 0, 0);
        for (int n = 0; n < 8; n++) {
            x.move(1, n % 2 * 100);
        }
        int digest = x.digest();
        x.wheel(0, 1);
        Due.due("MOVES", x.play(0), 0);
        x.undo();
        Due.due("all eight MOVES are back", x.digest(), digest);
        Due.due("SHORT behind undo", x.play(1), 4);
    }

    private static void worstOfNothing() {
        Doc.says(14, "With T TICKS (0 .. 8) and B CALLS (0 .. 12) left");
        WheelStore x = new WheelStore();
        Due.due("no TICKS, no CALLS", x.worst(0, 0, 0, 0, 0), 0);
        Due.due("no TICKS", x.worst(0, 12, 0, 0, 0), 0);
        Due.due("no CALLS", x.worst(8, 0, 0, 0, 0), 0);
        Due.due("all of both", x.worst(8, 12, 0, 0, 0), 12);
        Doc.says(14, "of d from 0 to 6, no more than B");
        Due.due("6 in one TICK", x.worst(1, 12, 0, 0, 0), 6);
        Due.due("6 of 6", x.worst(1, 6, 0, 0, 0), 6);
        Due.due("5 of 5", x.worst(1, 5, 0, 0, 0), 5);
        Due.due("12 in two TICKS", x.worst(2, 12, 0, 0, 0), 12);
        Due.due("11 in two TICKS", x.worst(2, 11, 0, 0, 0), 11);
    }

    private static void worstAtItsEdges() {
        Doc.says(14, "then each WHEEL gives g, no more than rate, nor its charge, all together no more than d");
        WheelStore x = new WheelStore();
        x.wheel(6, 2);
        Due.due("no more than its rate", x.worst(1, 6, 6, 0, 0), 4);
        Due.due("just its rate", x.worst(1, 6, 2, 0, 0), 4);
        Due.due("no more than its charge", x.worst(1, 6, 1, 0, 0), 5);
        Due.due("a charge of 0", x.worst(1, 6, 0, 0, 0), 6);
        x.wheel(6, 6);
        Due.due("all that was called", x.worst(1, 6, 6, 6, 0), 0);
        Due.due("all but one", x.worst(1, 6, 1, 4, 0), 1);
        x.wheel(0, 6);
        Due.due("one without room", x.worst(1, 6, 1, 4, 0), 1);
        Doc.says(14, "those that gave 0 get 1, up to their room");
        x = new WheelStore();
        x.wheel(1, 1);
        // 1 and 1: what it gave it has no more
        Due.due("called twice", x.worst(2, 2, 1, 0, 0), 1);
        Due.due("called once", x.worst(2, 1, 1, 0, 0), 0);
        Due.due("full it gets none", x.worst(8, 2, 1, 0, 0), 1);
        Doc.says(14, "and charges (0 for WHEELS that are not there)");
        Due.due("a charge of WHEEL 1", x.worst(2, 1, 0, 1, 0), -1);
        Due.due("a charge of WHEEL 2", x.worst(2, 1, 0, 0, 1), -1);
    }

    private static void questionsThatCantBe() {
        WheelStore x = new WheelStore();
        x.wheel(2, 1);
        x.wheel(0, 1);
        int digest = x.digest();
        int[][] can = {{1, 0, 0, 0, 0}, {8, 12, 2, 0, 0}, {8, 0, 2, 0, 0}, {1, 12, 0, 0, 0}};
        for (int[] c : can) {
            Doc.says(14, "WORST with so many TICKS and CALLS, and charges");
            Due.due("worst that can be", x.worst(c[0], c[1], c[2], c[3], c[4]) >= 0, true);
            Doc.says(15, "CALL; NONE likewise, or without TICKS.");
            Due.due("call that can be", x.call(c[0], c[1], c[2], c[3], c[4]) >= 0, true);
            Doc.says(16, "GIVE upon a call; NONE likewise (or if the call can't be).");
            Due.due("give that can be", x.give(c[0], c[1], c[2], c[3], c[4], 0), 0);
        }
        int[][] wrong = {{-1, 0, 0, 0, 0}, {9, 0, 0, 0, 0}, {1, -1, 0, 0, 0}, {1, 13, 0, 0, 0}, {1, 1, -1, 0, 0}, {1, 1, 3, 0, 0},
            {1, 1, 0, -1, 0}, {1, 1, 0, 1, 0}, {1, 1, 0, 0, -1}, {1, 1, 0, 0, 1}, {MIN, 1, 0, 0, 0}, {MAX, 1, 0, 0, 0},
            {1, MIN, 0, 0, 0}, {1, MAX, 0, 0, 0}, {1, 1, MIN, 0, 0}, {1, 1, MAX, 0, 0}, {1, 1, 0, MAX, 0}, {1, 1, 0, 0, MIN}};
        for (int[] w : wrong) {
            String what = w[0] + ", " + w[1] + ", " + w[2] + ", " + w[3] + ", " + w[4];
            Doc.says(14, "NONE if one can't be.");
            Due.due("worst " + what, x.worst(w[0], w[1], w[2], w[3], w[4]), -1);
            Doc.says(15, "CALL; NONE likewise");
            Due.due("call " + what, x.call(w[0], w[1], w[2], w[3], w[4]), -1);
            Doc.says(16, "GIVE upon a call; NONE likewise");
            Due.due("give " + what, x.give(w[0], w[1], w[2], w[3], w[4], 0), -1);
            Doc.says(17, "false, doing nothing, if one can't be.");
            Due.due("begin " + what, x.begin(w[0], w[1], w[2], w[3], w[4]), false);
        }
        Due.due("as ahead", x.digest(), digest);
        Due.due("no ACT", x.about(3), 2);
    }

    private static void leastCall() {
        Doc.says(15, "CALL: the least d by which it is that.");
        WheelStore x = new WheelStore();
        Due.due("all can wait", x.call(8, 12, 0, 0, 0), 0);
        Due.due("none can wait", x.call(2, 12, 0, 0, 0), 6);
        Due.due("one can't wait", x.call(2, 7, 0, 0, 0), 1);
        Due.due("6 can wait", x.call(2, 6, 0, 0, 0), 0);
        Due.due("the last TICK", x.call(1, 12, 0, 0, 0), 6);
        Due.due("the last TICK, 1 left", x.call(1, 1, 0, 0, 0), 1);
        Due.due("no CALLS", x.call(1, 0, 0, 0, 0), 0);
        x.wheel(6, 6);
        Due.due("nothing is SHORT by any", x.call(1, 6, 6, 0, 0), 0);
        Doc.says(15, "or without TICKS.");
        Due.due("no TICKS", x.call(0, 12, 0, 0, 0), -1);
        Due.due("no TICKS, no CALLS", x.call(0, 0, 0, 0, 0), -1);
    }

    private static void firstGive() {
        Doc.says(16, "the first by WHEEL 0's g, then 1's, then 2's, the least of each: 100 * g of WHEEL 0 + 10 * that of 1 + that of 2 (0 for none)");
        WheelStore x = new WheelStore();
        Due.due("no WHEEL gives", x.give(1, 6, 0, 0, 0, 6), 0);
        for (int n = 0; n < 3; n++) {
            x.wheel(6, 6);
        }
        Due.due("upon 0", x.give(1, 6, 6, 6, 6, 0), 0);
        Due.due("upon 1 of 1, 1, 1", x.give(1, 6, 1, 1, 1, 1), 1);
        Due.due("upon 2 of 1, 1, 1", x.give(1, 6, 1, 1, 1, 2), 11);
        Due.due("upon 3 of 1, 1, 1", x.give(1, 6, 1, 1, 1, 3), 111);
        Due.due("upon 6 of 1, 1, 1", x.give(1, 6, 1, 1, 1, 6), 111);
        Due.due("upon 6 of 6, 6, 6", x.give(1, 6, 6, 6, 6, 6), 6);
        Due.due("upon 6 of 6, 6, 0", x.give(1, 6, 6, 6, 0, 6), 60);
        Due.due("upon 6 of 6, 0, 0", x.give(1, 6, 6, 0, 0, 6), 600);
        Due.due("upon 6 of 6, 1, 2", x.give(1, 6, 6, 1, 2, 6), 312);
        // one is called in the last TICK: 1 less now is 1 more then, so that it is the same to give none now
        x = new WheelStore();
        x.wheel(1, 1);
        Due.due("upon 1 with 1 to come", x.give(2, 2, 1, 0, 0, 1), 0);
        Due.due("upon 1 with none to come", x.give(2, 1, 1, 0, 0, 1), 100);
    }

    private static void givesNoMore() {
        Doc.says(16, "(or if the call can't be)");
        WheelStore x = new WheelStore();
        x.wheel(6, 6);
        for (int call : new int[] {-1, 7, 12, MIN, MAX}) {
            Due.due("give upon " + call, x.give(1, 12, 6, 0, 0, call), -1);
        }
        Due.due("give upon 6", x.give(1, 12, 6, 0, 0, 6), 600);
        Due.due("give upon all CALLS", x.give(1, 3, 6, 0, 0, 3), 300);
        Due.due("give upon more than CALLS", x.give(1, 3, 6, 0, 0, 4), -1);
        Due.due("give upon 0 without CALLS", x.give(1, 0, 6, 0, 0, 0), 0);
        Due.due("give upon 1 without CALLS", x.give(1, 0, 6, 0, 0, 1), -1);
        Due.due("give without TICKS", x.give(0, 3, 6, 0, 0, 0), -1);
    }

    private static void playsThatBegin() {
        Doc.says(17, "A PLAY begins (without MOVES): true; false, doing nothing, if one can't be.");
        WheelStore x = new WheelStore();
        Due.due("begin with nothing", x.begin(0, 0, 0, 0, 0), true);
        Due.due("that is an ACT", x.about(3), 1);
        x.wheel(3, 1);
        Due.due("begin with all", x.begin(8, 12, 3, 0, 0), true);
        x.move(6, 100);
        int digest = x.digest();
        Due.due("begin beyond the room", x.begin(1, 1, 4, 0, 0), false);
        Due.due("begin without such a WHEEL", x.begin(1, 1, 0, 1, 0), false);
        Due.due("as ahead", x.digest(), digest);
        Due.due("MOVES", x.play(0), 1);
        Due.due("begin anew", x.begin(8, 12, 3, 0, 0), true);
        Due.due("without MOVES", x.play(0), 0);
        Due.due("SHORT", x.play(1), 0);
        Due.due("charge", x.play(4), 3);
        x.undo();
        Due.due("its MOVE is back", x.digest(), digest);
    }

    private static void chargesGrow() {
        Doc.says(19, "those that gave 0 get 1, up to their room");
        WheelStore x = new WheelStore();
        x.wheel(3, 2);
        x.wheel(0, 1);
        x.begin(8, 12, 0, 0, 0);
        int[] due = {1, 2, 3, 3};
        for (int charge : due) {
            x.move(0, 0);
            Due.due("WHEEL 0", x.play(4), charge);
            Due.due("WHEEL 1 without room", x.play(5), 0);
            Due.due("a WHEEL that is not there", x.play(6), 0);
        }
        x.move(2, 200);
        Due.due("it gave 2 and gets none", x.play(4), 1);
        x.move(6, 100);
        Due.due("it gave its last", x.play(4), 0);
        Due.due("SHORT", x.play(1), 5);
        x.move(4, 0);
        Due.due("it rested", x.play(4), 1);
        Due.due("SHORT", x.play(1), 9);
        Doc.says(19, "T is 1 less then, B less by d.");
        Due.due("TICKS left", x.play(2), 1);
        Due.due("CALLS left", x.play(3), 0);
        Due.due("a call of 1", x.move(1, 0), false);
        Due.due("a call of 0", x.move(0, 0), true);
        Due.due("TICKS left", x.play(2), 0);
    }

    private static void movesThatCantBe() {
        Doc.says(18, "true; false, doing nothing, if it can't be, or there are 8.");
        WheelStore x = new WheelStore();
        Due.due("move without TICKS", x.move(0, 0), false);
        x.wheel(6, 3);
        x.wheel(2, 6);
        x.begin(2, 9, 5, 2, 0);
        int digest = x.digest();
        int[][] wrong = {{-1, 0}, {7, 0}, {MIN, 0}, {MAX, 0}, {6, -1}, {6, -100}, {6, 1000}, {6, MIN}, {6, MAX}, {6, 400}, {6, 30},
            {6, 1}, {6, 311}, {2, 300}, {4, 320}, {0, 100}, {0, 10}};
        for (int[] w : wrong) {
            Due.due("move " + w[0] + ", " + w[1], x.move(w[0], w[1]), false);
        }
        Due.due("as ahead", x.digest(), digest);
        Due.due("no ACT", x.about(3), 3);
        Due.due("all that they can", x.move(5, 320), true);
        Due.due("more CALLS than are left", x.move(5, 0), false);
        Due.due("more than its charge", x.move(4, 300), false);
        Due.due("WHEEL 1 is empty", x.move(4, 10), false);
        Due.due("all CALLS that are left", x.move(4, 200), true);
        Due.due("no TICKS are left", x.move(0, 0), false);
        Due.due("ACTS", x.about(3), 5);
    }

    private static void eightMoves() {
        Doc.says(18, "and has up to 8 MOVES: a call and a give (as above) that can be then");
        WheelStore x = new WheelStore();
        x.begin(8, 12, 0, 0, 0);
        for (int n = 0; n < 8; n++) {
            Due.due("move " + n, x.move(n < 6 ? 2 : 0, 0), true);
            Due.due("MOVES", x.play(0), n + 1);
        }
        int digest = x.digest();
        Due.due("a ninth", x.move(0, 0), false);
        Due.due("as ahead", x.digest(), digest);
        Due.due("MOVES", x.play(0), 8);
        Due.due("SHORT", x.play(1), 12);
        Due.due("blame of the last", x.blame(7, 0), 0);
        x.undo();
        Due.due("the eighth once more", x.move(0, 0), true);
        Due.due("as ahead", x.digest(), digest);
    }

    private static void playTells() {
        Doc.says(19, "charges (0 of all at first)");
        WheelStore x = new WheelStore();
        for (int what = 0; what <= 6; what++) {
            Due.due("play(" + what + ") at first", x.play(what), 0);
        }
        Doc.says(19, "4, 5, 6: charges (0 of those that are not there). NONE for another what.");
        x.wheel(6, 6);
        x.wheel(5, 6);
        x.wheel(4, 6);
        x.begin(8, 12, 6, 5, 4);
        int[] due = {0, 0, 8, 12, 6, 5, 4};
        for (int what = 0; what <= 6; what++) {
            Due.due("play(" + what + ")", x.play(what), due[what]);
        }
        for (int what : new int[] {-1, 7, 8, MIN, MAX}) {
            Due.due("play(" + what + ")", x.play(what), -1);
        }
    }

    private static void blameOfNone() {
        Doc.says(20, "of the call (who 0), of the give (1); NONE if one is none.");
        WheelStore x = new WheelStore();
        Due.due("blame without a PLAY", x.blame(0, 0), -1);
        x.begin(2, 3, 0, 0, 0);
        Due.due("blame without MOVES", x.blame(0, 0), -1);
        x.move(1, 0);
        Due.due("blame of the call", x.blame(0, 0), 0);
        Due.due("blame of the give", x.blame(0, 1), 0);
        for (int n : new int[] {-1, 1, 2, MIN, MAX}) {
            Due.due("blame of MOVE " + n, x.blame(n, 0), -1);
            Due.due("blame of MOVE " + n, x.blame(n, 1), -1);
        }
        for (int who : new int[] {-1, 2, MIN, MAX}) {
            Due.due("blame of who " + who, x.blame(0, who), -1);
        }
        x.undo();
        Due.due("blame behind undo", x.blame(0, 0), -1);
    }

    private static void blameIsNeverBelow() {
        Doc.says(20, "(No BLAME is below 0.)");
        WheelStore x = new WheelStore();
        x.begin(1, 3, 0, 0, 0);
        x.move(1, 0);
        Due.due("two calls less", x.blame(0, 0), 2);
        Due.due("the give could be no other", x.blame(0, 1), 0);
        x.begin(1, 3, 0, 0, 0);
        x.move(3, 0);
        Due.due("the worst call", x.blame(0, 0), 0);
        x.wheel(2, 2);
        x.begin(1, 2, 2, 0, 0);
        x.move(2, 0);
        Due.due("nothing is SHORT by any call", x.blame(0, 0), 0);
        Due.due("2 were not given", x.blame(0, 1), 2);
        x.begin(1, 2, 2, 0, 0);
        x.move(2, 200);
        Due.due("all were given", x.blame(0, 1), 0);
    }
}
