/** The edges that the document names for a new object, ACTS, the DIGEST and what there is about: promises 1 and 45 to 48. */
final class ActsEdges {
    private static final int MIN = Integer.MIN_VALUE;
    private static final int MAX = Integer.MAX_VALUE;
    private static final int KINDS = 15;
    private static final String RING = "ring heavy 1 stiff 2 holds 3 fit 4;";

    private ActsEdges() {
    }

    static void run() {
        newOne();
        eachKindOfAct();
        fullestIsTakenBack();
        refusedIsNoAct();
        sameIsAnAct();
        tapeAndFaultStay();
        undoOfNone();
        redoOfNone();
        latestThatWasNot();
        goneWithANewAct();
        acts300();
        acts300AndRedo();
        digestOfANewOne();
        digestWraps();
        aboutAtItsEdges();
        aboutOfEachSlot();
        calls512();
    }

    private static void newOne() {
        Doc.says(1, "No RINGS, no WHEELS, no ACTS.");
        WheelStore x = new WheelStore();
        Due.due("RINGS", x.about(0), 0);
        Due.due("WHEELS", x.about(1), 0);
        Due.due("ACTS", x.about(3), 0);
        Due.due("most", x.most(), -1);
        Due.due("a charge of WHEEL 0", x.worst(1, 1, 1, 0, 0), -1);
        Due.due("undo", x.undo(), false);
        Due.due("redo", x.redo(), false);
        x.wheel(1, 1);
        Due.due("another one has none", new WheelStore().about(1), 0);
        Doc.says(1, "`NONE = -1`: There is none.");
        Due.due("NONE", WheelStore.NONE, -1);
    }

    /** One ACT of a kind that does something, told ahead of it: begin() needs TICKS for move(). */
    private static boolean act(WheelStore x, int kind) {
        switch (kind) {
            case 0: return Due.stack(x, RING) == 1;
            case 1: return x.price(23, 98, 99);
            case 2: return x.store(30, 9, 100);
            case 3: return x.misses(30);
            case 4: return x.wheel(6, 6) == 0;
            case 5: return x.hole(-99, 99, 2) == 0;
            case 6: return x.shake(-999, 999);
            case 7: return x.plan(23, -9);
            case 8: return x.begin(8, 12, 6, 0, 0);
            case 9: return x.move(6, 600);
            case 10: return x.drag(30, 999);
            case 11: return x.cracks(1, 2, 3, 4);
            case 12: return x.costs(9999, 9998, 9997);
            case 13: return x.makes(4, 255);
            default: return x.reads(7, true) == 0;
        }
    }

    private static void eachKindOfAct() {
        Doc.says(45, "each as it does something (true, or a number), are ACTS. undo() takes back the latest one that was not");
        WheelStore x = new WheelStore();
        int[] digests = new int[KINDS + 1];
        for (int kind = 0; kind < KINDS; kind++) {
            digests[kind] = x.digest();
            Due.due("ACT of kind " + kind, act(x, kind), true);
            Due.due("ACTS", x.about(3), kind + 1);
            Due.due("it did something", x.digest() != digests[kind], true);
        }
        digests[KINDS] = x.digest();
        for (int turn = 0; turn < 2; turn++) {
            Doc.says(45, "The latest ACT is taken back: true; false if there is none that is kept.");
            for (int kind = KINDS - 1; kind >= 0; kind--) {
                Due.due("undo", x.undo(), true);
                Due.due("as ahead of kind " + kind, x.digest(), digests[kind]);
                Due.due("ACTS", x.about(3), kind);
            }
            Due.due("undo of none", x.undo(), false);
            Doc.says(46, "The ACT taken back last is told again: true; false if there is none.");
            for (int kind = 0; kind < KINDS; kind++) {
                Due.due("those to tell again", x.about(4), KINDS - kind);
                Due.due("redo", x.redo(), true);
                Due.due("as behind kind " + kind, x.digest(), digests[kind + 1]);
            }
            Due.due("redo of none", x.redo(), false);
        }
    }

    /** As many of each as there can be, so that the last of them is taken back as well as the first. */
    private static boolean fill(WheelStore x, int n) {
        if (n < 2) {
            String ring = "ring heavy " + (19 + n) + " stiff 12 holds 9999 " + (n == 0 ? "play 99;" : "fit 99;");
            return Due.stack(x, ring + ring + ring + ring + ring) == 5;
        }
        if (n < 11) {
            return x.hole(99, -99, 2) == n - 2;
        }
        if (n < 23) {
            return x.reads(7, true) == n - 11;
        }
        if (n < 26) {
            return x.wheel(6, 6) == n - 23;
        }
        if (n == 26) {
            return x.begin(8, 12, 6, 6, 6);
        }
        return n < 35 ? x.move(1, n % 2) : x.wheel(1, 1) == -1 && x.begin(7, 11, 1, 2, 3);
    }

    private static void fullestIsTakenBack() {
        Doc.says(45, "all (but the TAPE, the FAULT and the row of ACTS) is as ahead of it. redo() tells that again which was taken back last");
        WheelStore x = new WheelStore();
        int many = 36;
        int[] digests = new int[many + 1];
        for (int n = 0; n < many; n++) {
            digests[n] = x.digest();
            Due.due("ACT " + n, fill(x, n), true);
        }
        digests[many] = x.digest();
        for (int n = many - 1; n >= 0; n--) {
            Due.due("undo", x.undo(), true);
            Due.due("as ahead of ACT " + n, x.digest(), digests[n]);
        }
        for (int n = 0; n < many; n++) {
            Due.due("redo", x.redo(), true);
            Due.due("as behind ACT " + n, x.digest(), digests[n + 1]);
        }
    }

    /** Each kind of ACT as it can't be. */
    private static boolean refuse(WheelStore x, int kind) {
        switch (kind) {
            case 0: return Due.stack(x, RING + "ring") == -1;
            case 1: return !x.price(24, 98, 99);
            case 2: return !x.store(31, 9, 100);
            case 3: return !x.misses(31);
            case 4: return x.wheel(6, 7) == -1;
            case 5: return x.hole(-99, 99, 3) == -1;
            case 6: return !x.shake(-999, 1000);
            case 7: return !x.plan(23, -10);
            case 8: return !x.begin(8, 12, 0, 0, 1);
            case 9: return !x.move(6, 601);
            case 10: return !x.drag(30, 1000);
            case 11: return !x.cracks(1, 8, 3, 4);
            case 12: return !x.costs(9999, 9998, 10000);
            case 13: return !x.makes(4, 256);
            default: return x.reads(8, true) == -1;
        }
    }

    private static void refusedIsNoAct() {
        Doc.says(48, "each as it does something (true, or a number), are ACTS.");
        WheelStore x = new WheelStore();
        for (int kind = 0; kind < KINDS; kind++) {
            act(x, kind);
        }
        x.undo();
        x.undo();
        int digest = x.digest();
        for (int kind = 0; kind < KINDS; kind++) {
            Due.due("kind " + kind + " is refused", refuse(x, kind), true);
            Due.due("as ahead", x.digest(), digest);
            Due.due("ACTS", x.about(3), KINDS - 2);
            Due.due("those to tell again", x.about(4), 2);
        }
        Due.due("redo", x.redo(), true);
        Due.due("undo", x.undo(), true);
        Due.due("as ahead", x.digest(), digest);
        Due.due("TAPE and end() are none", x.feed(1, 2, 3, 4, 5) + x.end(0), 20);
        Due.due("ACTS", x.about(3), KINDS - 2);
        Due.due("those to tell again", x.about(4), 2);
    }

    private static void sameIsAnAct() {
        Doc.says(48, "those are gone with a new ACT");
        for (int kind = 0; kind < KINDS; kind++) {
            if (kind == 4 || kind == 5 || kind == 9 || kind == 14) {
                continue;
            }
            WheelStore x = new WheelStore();
            x.wheel(6, 6);
            act(x, kind);
            x.misses(1);
            x.undo();
            int digest = x.digest();
            Due.due("kind " + kind + " as it stands", act(x, kind), true);
            Due.due("it is the same", x.digest(), digest);
            Due.due("but an ACT", x.about(3), 3);
            Due.due("redo", x.redo(), false);
        }
    }

    private static void tapeAndFaultStay() {
        Doc.says(45, "all (but the TAPE, the FAULT and the row of ACTS) is as ahead of it");
        WheelStore x = new WheelStore();
        Due.stack(x, RING);
        Due.stack(x, "ring 7");
        Due.tell(x, RING);
        Due.due("undo", x.undo(), true);
        Due.due("RINGS", x.about(0), 0);
        Due.due("bytes on the TAPE", x.about(5), RING.length());
        Due.due("the FAULT", x.fault(0), 2);
        Due.due("its place", x.fault(1), 5);
        Due.due("redo", x.redo(), true);
        Due.due("RINGS", x.about(0), 1);
        Due.due("bytes on the TAPE", x.about(5), RING.length());
        Due.due("the FAULT", x.fault(0), 2);
        x.undo();
        Due.due("stack of what stayed on the TAPE", x.stack(), 1);
        Due.due("the FAULT", x.fault(0), 0);
        x.undo();
        Due.due("the TAPE is empty", x.about(5), 0);
        Due.due("the FAULT", x.fault(0), 0);
    }

    private static void undoOfNone() {
        Doc.says(45, "true; false if there is none that is kept.");
        WheelStore x = new WheelStore();
        int digest = x.digest();
        Due.due("undo of none", x.undo(), false);
        Due.due("as ahead", x.digest(), digest);
        Due.due("nothing to tell again", x.about(4), 0);
        x.misses(1);
        Due.due("undo", x.undo(), true);
        Due.due("undo of none", x.undo(), false);
        Due.due("one to tell again", x.about(4), 1);
        Due.due("ACTS", x.about(3), 0);
    }

    private static void redoOfNone() {
        Doc.says(46, "The ACT taken back last is told again: true; false if there is none.");
        WheelStore x = new WheelStore();
        Due.due("redo of none", x.redo(), false);
        x.misses(1);
        int digest = x.digest();
        Due.due("redo of what was not taken back", x.redo(), false);
        x.undo();
        Due.due("redo", x.redo(), true);
        Due.due("as ahead", x.digest(), digest);
        Due.due("redo of none", x.redo(), false);
        Due.due("as ahead", x.digest(), digest);
        Due.due("ACTS", x.about(3), 1);
    }

    private static void latestThatWasNot() {
        Doc.says(45, "undo() takes back the latest one that was not");
        WheelStore x = new WheelStore();
        x.price(0, 1, 0);
        x.price(0, 2, 0);
        x.price(0, 3, 0);
        x.undo();
        Due.due("buy", x.about(10), 2);
        x.undo();
        Due.due("buy", x.about(10), 1);
        x.redo();
        Due.due("buy", x.about(10), 2);
        x.undo();
        x.undo();
        Due.due("buy", x.about(10), 0);
        Doc.says(46, "redo() tells that again which was taken back last");
        for (int buy = 1; buy <= 3; buy++) {
            Due.due("redo", x.redo(), true);
            Due.due("buy", x.about(10), buy);
        }
    }

    private static void goneWithANewAct() {
        Doc.says(46, "those are gone with a new ACT");
        for (int kind = 0; kind < KINDS; kind++) {
            WheelStore x = new WheelStore();
            x.wheel(6, 6);
            x.begin(8, 12, 6, 0, 0);
            if (kind == 4) {
                x.undo();
                x.undo();
            }
            x.misses(1);
            x.misses(2);
            x.undo();
            int buried = x.about(3);
            Due.due("one to tell again", x.about(4), 1);
            Due.due("ACT of kind " + kind, act(x, kind), true);
            int digest = x.digest();
            Due.due("none to tell again", x.about(4), 0);
            Due.due("redo", x.redo(), false);
            Due.due("as ahead", x.digest(), digest);
            Due.due("ACTS", x.about(3), buried + 1);
            x.undo();
            Due.due("redo", x.redo(), true);
            Due.due("the new ACT", x.digest(), digest);
        }
    }

    private static void acts300() {
        Doc.says(45, "At most 300 ACTS are kept (not taken back ones; of the 301st on the first is kept no more, and stays done).");
        for (int many = 299; many <= 302; many++) {
            WheelStore x = new WheelStore();
            for (int n = 1; n <= many; n++) {
                x.price(n % 24, n % 100, n / 100);
            }
            int kept = Math.min(many, 300);
            Due.due("ACTS of " + many, x.about(3), kept);
            int count = 0;
            while (count < 400 && x.undo()) {
                count++;
            }
            Due.due("taken back of " + many, count, kept);
            Due.due("to tell again", x.about(4), kept);
            Due.due("ACTS", x.about(3), 0);
            for (int n = 1; n <= 3; n++) {
                Due.due("ACT " + n + " of " + many + " stays done", x.about(10 + n), n <= many - 300 ? n : 0);
            }
            count = 0;
            while (count < 400 && x.redo()) {
                count++;
            }
            Due.due("told again of " + many, count, kept);
            Due.due("the last one", x.about(10 + many % 24), many % 100);
        }
    }

    private static void acts300AndRedo() {
        Doc.says(48, "At most 300 ACTS are kept (not taken back ones");
        WheelStore x = new WheelStore();
        for (int n = 0; n < 300; n++) {
            x.plan(n % 24, n % 9);
        }
        for (int n = 0; n < 5; n++) {
            x.undo();
        }
        Due.due("ACTS", x.about(3), 295);
        Due.due("to tell again", x.about(4), 5);
        x.misses(1);
        Due.due("ACTS", x.about(3), 296);
        Due.due("to tell again", x.about(4), 0);
        for (int n = 0; n < 4; n++) {
            x.misses(2);
        }
        Due.due("ACTS", x.about(3), 300);
        x.misses(3);
        Due.due("ACTS", x.about(3), 300);
        int count = 0;
        while (count < 400 && x.undo()) {
            count++;
        }
        Due.due("taken back", count, 300);
        // the first one, plan(0, 0), is kept no more; plan(1, 1) is
        Due.due("plan of SLOT 1", x.about(71), 9);
        x.redo();
        Due.due("plan of SLOT 1", x.about(71), 10);
    }

    private static void digestOfANewOne() {
        Doc.says(47, "DIGEST: 7 at first; for each number in turn it becomes 31 * itself and that (wrapping)");
        // no RINGS, 24 SLOTS of three, 0, 1, 0, by, no WHEELS, no HOLES, SHAKE, PLAY's five, no MOVES, DRAG, 8, 0, 20, 20, ..
        int[] row = new int[1 + 72 + 3 + 1 + 1 + 1 + 2 + 5 + 1 + 31 + 4 + 3 + 5 + 1];
        row[74] = 1;
        row[118] = 8;
        row[120] = 20;
        row[121] = 20;
        Due.due("digest", new WheelStore().digest(), digestOf(row));
        Doc.says(47, "`int digest()`: DIGEST.");
        Due.due("digest of another new one", new WheelStore().digest(), -1920489182);
    }

    /** With numbers that never wrap, and what is left of them at the end. */
    private static int digestOf(int[] row) {
        java.math.BigInteger sum = java.math.BigInteger.valueOf(7);
        for (int number : row) {
            sum = sum.multiply(java.math.BigInteger.valueOf(31)).add(java.math.BigInteger.valueOf(number));
        }
        return sum.intValue();
    }

    private static void digestWraps() {
        Doc.says(47, "how many RINGS; of each heavy, stiff, holds, fit; of each SLOT 0 .. 23 buy, sell, plan; room, rate, leak; by; how many WHEELS; of each room, rate; how many HOLES; of each x, y, most; SHAKE's x, y; the PLAY's ticks, calls and charges as it begins, how many MOVES; of each call, give; DRAG of speeds 0 .. 30; grow0, grow1, breaks, seen; look, ring, burst; the SIGNS of FAULTS 0 .. 4; how many READINGS; of each its SIGN, and 1 if it was seen, else 0.");
        WheelStore x = new WheelStore();
        Due.stack(x, RING + "ring heavy 20 stiff 12 holds 9999 play 99;");
        x.price(0, 99, 1);
        x.price(23, 2, 98);
        x.plan(0, -9);
        x.plan(23, 9);
        x.store(30, 9, 100);
        x.misses(30);
        x.wheel(6, 5);
        x.wheel(4, 3);
        x.hole(-99, 98, 2);
        x.hole(1, -2, 1);
        x.shake(-999, 998);
        x.begin(8, 12, 6, 4, 0);
        x.move(6, 510);
        x.move(5, 100);
        x.drag(0, 999);
        x.drag(30, 1);
        x.cracks(1, 2, 3, 4);
        x.costs(9999, 9998, 9997);
        x.makes(0, 255);
        x.makes(4, 1);
        x.reads(7, true);
        x.reads(6, false);
        int[] row = new int[9 + 72 + 4 + 5 + 7 + 2 + 5 + 5 + 31 + 4 + 3 + 5 + 5];
        int at = put(row, 0, 2, 1, 2, 3, 4, 20, 12, 9999, -99);
        put(row, at, 99, 1, -9);
        put(row, at + 69, 2, 98, 9);
        at = put(row, at + 72, 30, 9, 100, 30);
        at = put(row, at, 2, 6, 5, 4, 3);
        at = put(row, at, 2, -99, 98, 2, 1, -2, 1);
        at = put(row, at, -999, 998);
        at = put(row, at, 8, 12, 6, 4, 0);
        at = put(row, at, 2, 6, 510, 5, 100);
        put(row, at, 999);
        at = put(row, at + 30, 1);
        at = put(row, at, 1, 2, 3, 4, 9999, 9998, 9997);
        at = put(row, at, 255, 0, 0, 0, 1);
        at = put(row, at, 2, 7, 1, 6, 0);
        Due.due("all numbers were put", at, row.length);
        Due.due("digest", x.digest(), digestOf(row));
    }

    private static int put(int[] row, int at, int... numbers) {
        System.arraycopy(numbers, 0, row, at, numbers.length);
        return at + numbers.length;
    }

    private static void aboutAtItsEdges() {
        Doc.says(48, "What 0: RINGS, 1: WHEELS, 2: HOLES, 3: ACTS kept (not taken back), 4: those that redo() could tell again, 5: bytes on the TAPE");
        WheelStore x = new WheelStore();
        for (int what = 0; what <= 5; what++) {
            Due.due("about(" + what + ")", x.about(what), 0);
        }
        Due.stack(x, RING + RING + RING + RING + RING);
        for (int n = 0; n < 10; n++) {
            x.wheel(1, 1);
            x.hole(1, 1, 1);
        }
        x.undo();
        x.undo();
        for (int n = 0; n < 21; n++) {
            x.feed(0, 0, 0, 0, 0);
        }
        int[] due = {5, 3, 7, 11, 2, 400};
        for (int what = 0; what <= 5; what++) {
            Due.due("about(" + what + ")", x.about(what), due[what]);
        }
        Doc.says(48, "NONE for another what.");
        for (int what : new int[] {-1, 6, 7, 9, 34, 35, 39, 64, 69, 94, 100, 1000, MIN, MAX}) {
            Due.due("about(" + what + ")", x.about(what), -1);
        }
    }

    private static void aboutOfEachSlot() {
        Doc.says(48, "10 + s: buy, 40 + s: sell, 70 + s: plan's q and 9 of SLOT s.");
        WheelStore x = new WheelStore();
        for (int slot : new int[] {0, 23}) {
            Due.due("buy at first", x.about(10 + slot), 0);
            Due.due("sell at first", x.about(40 + slot), 0);
            Due.due("q and 9 at first", x.about(70 + slot), 9);
            x.price(slot, 99, 98);
            x.plan(slot, -9);
            Due.due("buy", x.about(10 + slot), 99);
            Due.due("sell", x.about(40 + slot), 98);
            Due.due("q and 9", x.about(70 + slot), 0);
            x.plan(slot, 9);
            Due.due("q and 9", x.about(70 + slot), 18);
        }
    }

    private static void calls512() {
        Doc.says(1, "An object is used for at most 512 calls after it has been made");
        WheelStore x = new WheelStore();
        for (int n = 1; n < 511; n++) {
            Due.due("call " + n, x.drag(n % 31, n), true);
        }
        Due.due("call 511", x.undo(), true);
        Due.due("call 512", x.about(3), 299);
    }
}
