/** The edges that the document names for THE STORE, its SLOTS and the PLAN: promises 21 to 28. */
final class MarketEdges {
    private static final int MIN = Integer.MIN_VALUE;
    private static final int MAX = Integer.MAX_VALUE;

    private MarketEdges() {
    }

    static void run() {
        pricesThatCanBe();
        pricesThatCantBe();
        storeThatCanBe();
        missesThatCanBe();
        pricesTurnToNoLessThanNone();
        pricesTurnAgainstOne();
        valueAtItsEdges();
        nothingBehindTheLastSlot();
        tradesWithinRateAndRoom();
        whatIsLostIsCut();
        tradesOfLikeWorth();
        tradesThatCantBe();
        worthOfOneMore();
        plansThatCanBe();
        planThatHolds();
        reasonsInTheirOrder();
        firstSlotThatFails();
        checksThatCantBe();
    }

    private static void pricesThatCanBe() {
        Doc.says(21, "SLOTS 0 .. 23 have prices buy and sell (0 .. 99; 0 and 0 at first).");
        WheelStore x = new WheelStore();
        for (int slot = 0; slot < 24; slot++) {
            Due.due("buy at first", x.about(10 + slot), 0);
            Due.due("sell at first", x.about(40 + slot), 0);
        }
        for (int slot : new int[] {0, 1, 22, 23}) {
            Due.due("price of SLOT " + slot, x.price(slot, 99, 0), true);
            Due.due("buy", x.about(10 + slot), 99);
            Due.due("sell", x.about(40 + slot), 0);
            Due.due("price of SLOT " + slot, x.price(slot, 0, 99), true);
            Due.due("buy", x.about(10 + slot), 0);
            Due.due("sell", x.about(40 + slot), 99);
        }
        Due.due("SLOT 2 beside them", x.about(42), 0);
    }

    private static void pricesThatCantBe() {
        Doc.says(21, "Prices of a SLOT: true; false, doing nothing, if they can't be.");
        WheelStore x = new WheelStore();
        x.price(0, 7, 8);
        int digest = x.digest();
        int[][] wrong = {{-1, 1, 1}, {24, 1, 1}, {0, -1, 1}, {0, 100, 1}, {0, 1, -1}, {0, 1, 100}, {MIN, 1, 1}, {MAX, 1, 1},
            {0, MIN, 1}, {0, MAX, 1}, {0, 1, MIN}, {0, 1, MAX}};
        for (int[] w : wrong) {
            Due.due("price " + w[0] + ", " + w[1] + ", " + w[2], x.price(w[0], w[1], w[2]), false);
        }
        Due.due("as ahead", x.digest(), digest);
        Due.due("no ACT", x.about(3), 1);
    }

    private static void storeThatCanBe() {
        Doc.says(22, "THE STORE has a room (0 .. 30), a rate (1 .. 9), a leak (0 .. 100) (0, 1, 0 at first).");
        WheelStore x = new WheelStore();
        int digest = x.digest();
        Due.due("as at first", x.store(0, 1, 0), true);
        Due.due("it is the same", x.digest(), digest);
        Due.due("but an ACT", x.about(3), 1);
        Due.due("a charge of 0", x.value(0, 0), 0);
        Due.due("a charge of 1", x.value(0, 1), -1);
        Due.due("the most of all", x.store(30, 9, 100), true);
        Due.due("a charge of 30", x.value(0, 30), 0);
        Due.due("a charge of 31", x.value(0, 31), -1);
        Doc.says(22, "THE STORE: likewise.");
        digest = x.digest();
        int[][] wrong = {{-1, 1, 0}, {31, 1, 0}, {1, 0, 0}, {1, 10, 0}, {1, -1, 0}, {1, 1, -1}, {1, 1, 101}, {MIN, 1, 0}, {MAX, 1, 0},
            {1, MIN, 0}, {1, MAX, 0}, {1, 1, MIN}, {1, 1, MAX}};
        for (int[] w : wrong) {
            Due.due("store " + w[0] + ", " + w[1] + ", " + w[2], x.store(w[0], w[1], w[2]), false);
        }
        Due.due("as ahead", x.digest(), digest);
        Due.due("no ACT", x.about(3), 2);
    }

    private static void missesThatCanBe() {
        Doc.says(23, "MISSES by (0 .. 30; 0 at first)");
        WheelStore x = new WheelStore();
        int digest = x.digest();
        Due.due("misses(0)", x.misses(0), true);
        Due.due("as at first", x.digest(), digest);
        Due.due("misses(30)", x.misses(30), true);
        digest = x.digest();
        Doc.says(23, "MISSES: likewise.");
        for (int by : new int[] {-1, 31, MIN, MAX}) {
            Due.due("misses(" + by + ")", x.misses(by), false);
        }
        Due.due("as ahead", x.digest(), digest);
        Due.due("no ACT", x.about(3), 2);
    }

    private static void pricesTurnToNoLessThanNone() {
        Doc.says(25, "both its prices turn out less by that (0 at least: way 0)");
        WheelStore x = new WheelStore();
        x.store(2, 2, 0);
        x.price(23, 5, 29);
        x.misses(30);
        Due.due("what is sold brings nothing", x.trade(23, 2, 0), 0);
        Due.due("what is bought brings nothing", x.trade(23, 0, 0), 0);
        Due.due("value", x.value(23, 2), 0);
        x.misses(29);
        Due.due("just nothing", x.trade(23, 2, 0), 0);
        x.misses(28);
        Due.due("just 1", x.trade(23, 2, 0), -2);
        Due.due("value", x.value(23, 2), 2);
        Doc.says(25, "or more by that (way 2)");
        x.price(23, 99, 99);
        x.price(22, 99, 0);
        x.misses(30);
        Due.due("69 each is sure", x.value(23, 2), 138);
        Due.due("129 each", x.trade(23, 2, 2), -2);
        Due.due("bought at 69", x.trade(22, 0, 0), 0);
        x.price(22, 98, 0);
        Due.due("bought at 68", x.trade(22, 0, 0), 2);
        Due.due("bought at 128", x.trade(22, 0, 2), 0);
    }

    private static void pricesTurnAgainstOne() {
        Doc.says(24, "VALUE of a SLOT and a charge: the most that is sure to come in from there on, less what is paid, whichever way prices turn in each SLOT.");
        WheelStore x = new WheelStore();
        x.store(1, 1, 0);
        x.price(22, 10, 0);
        x.price(23, 0, 12);
        Due.due("bought at 10, sold at 12", x.value(22, 0), 2);
        x.misses(1);
        Due.due("sold at 11 or 13", x.value(23, 1), 11);
        Due.due("bought at 9 or 11, sold at 11", x.value(22, 0), 0);
        Doc.says(25, "(0, 2; 1: they are as told)");
        Due.due("bought at 9", x.trade(22, 0, 0), 1);
        Due.due("bought at 10", x.trade(22, 0, 1), 1);
        Due.due("bought at 11 it brings nothing", x.trade(22, 0, 2), 0);
        x.price(22, 11, 0);
        Due.due("bought at 11 as told", x.trade(22, 0, 1), 0);
        Due.due("bought at 10", x.trade(22, 0, 0), 1);
    }

    private static void valueAtItsEdges() {
        Doc.says(24, "VALUE of a SLOT (0 .. 24; 24 is 0) and a charge; NONE if one can't be.");
        WheelStore x = new WheelStore();
        Due.due("a new one", x.value(0, 0), 0);
        Due.due("SLOT 24 of a new one", x.value(24, 0), 0);
        x.store(3, 3, 0);
        x.price(0, 0, 9);
        x.price(23, 0, 1);
        Due.due("SLOT 0", x.value(0, 3), 30);
        Due.due("SLOT 23", x.value(23, 3), 3);
        for (int charge = 0; charge <= 3; charge++) {
            Due.due("SLOT 24", x.value(24, charge), 0);
        }
        for (int slot : new int[] {-1, 25, MIN, MAX}) {
            Due.due("value of SLOT " + slot, x.value(slot, 0), -1);
        }
        for (int charge : new int[] {-1, 4, 30, MIN, MAX}) {
            Due.due("value of a charge of " + charge, x.value(0, charge), -1);
            Due.due("value of a charge of " + charge + " in SLOT 24", x.value(24, charge), -1);
        }
        x.undo();
        x.undo();
        x.undo();
        Due.due("a charge of 1 behind undo", x.value(0, 1), -1);
    }

    private static void nothingBehindTheLastSlot() {
        Doc.says(24, "What is left behind SLOT 23 is worth nothing.");
        WheelStore x = new WheelStore();
        x.store(3, 1, 0);
        Due.due("all is left", x.value(23, 3), 0);
        x.price(23, 9, 5);
        Due.due("two are left", x.value(23, 3), 5);
        x.price(22, 9, 5);
        Due.due("one is left", x.value(22, 3), 10);
        x.price(21, 1, 1);
        Due.due("none is left", x.value(21, 3), 11);
    }

    private static void tradesWithinRateAndRoom() {
        Doc.says(25, "In a SLOT with a charge c one trades q (-rate .. rate; c + q from 0 to room)");
        WheelStore x = new WheelStore();
        x.store(30, 9, 0);
        x.price(23, 1, 1);
        Due.due("no more than the rate", x.trade(23, 30, 1), -9);
        Due.due("just the rate", x.trade(23, 9, 1), -9);
        Due.due("no more than is in it", x.trade(23, 8, 1), -8);
        Due.due("nothing is in it", x.trade(23, 0, 1), 0);
        x.store(30, 1, 0);
        Due.due("the least rate", x.trade(23, 30, 1), -1);
        x.store(5, 9, 0);
        x.price(22, 1, 0);
        x.price(23, 0, 9);
        Due.due("up to the room", x.trade(22, 0, 1), 5);
        Due.due("up to the room", x.trade(22, 3, 1), 2);
        Due.due("it is full", x.trade(22, 5, 1), 0);
        x.store(30, 3, 0);
        Due.due("up to the rate", x.trade(22, 0, 1), 3);
        x.store(0, 9, 0);
        Due.due("there is no room", x.trade(22, 0, 1), 0);
        Doc.says(25, "q above 0 costs q * buy, below 0 brings -q * sell");
        x.store(4, 2, 0);
        x.price(22, 3, 99);
        x.price(23, 99, 8);
        Due.due("two bought at 3, sold at 8", x.value(22, 0), 10);
        Due.due("two sold at 99, two at 8", x.value(22, 4), 214);
    }

    private static void whatIsLostIsCut() {
        Doc.says(24, "then of what is in it leak of a hundred is lost (cut)");
        int[][] rows = {{3, 0, 3}, {3, 33, 3}, {3, 34, 2}, {3, 50, 2}, {3, 66, 2}, {3, 67, 1}, {3, 99, 1}, {3, 100, 0}, {1, 99, 1},
            {1, 100, 0}, {9, 11, 9}, {9, 12, 8}, {0, 100, 0}, {0, 50, 0}};
        for (int[] row : rows) {
            WheelStore x = new WheelStore();
            x.store(row[0], 9, row[1]);
            x.price(22, 99, 0);
            x.price(23, 99, 1);
            Due.due("of " + row[0] + " at " + row[1] + " are left", x.value(22, row[0]), row[2]);
            x.plan(1, -row[2]);
            Due.due("a PLAN that sells these", x.check(row[0], 0), -1);
            if (x.plan(1, -row[2] - 1)) {
                Due.due("a PLAN that sells one more", x.check(row[0], 1), row[2] < 9 ? 2 : 1);
            }
        }
        WheelStore x = new WheelStore();
        x.store(9, 9, 50);
        x.price(22, 0, 0);
        x.price(23, 99, 1);
        Due.due("of what is in it then: 9, as 8 are bought", x.value(22, 1), 5);
    }

    private static void tradesOfLikeWorth() {
        Doc.says(25, "of like ones the least without sign, then the one below 0");
        WheelStore x = new WheelStore();
        x.store(4, 2, 0);
        Due.due("all are like", x.trade(23, 2, 1), 0);
        x.price(22, 0, 1);
        x.price(23, 0, 1);
        Due.due("two now or two then", x.trade(22, 2, 1), 0);
        Due.due("one now, two then", x.trade(22, 3, 1), -1);
        Due.due("one more for nothing", x.trade(22, 1, 1), 1);
        // with 2 in it: sold one 1 + 3, kept 3, bought one 2 * 3 - 2, as the leak leaves 1 of 1, 1 of 2, 2 of 3
        x.store(3, 2, 53);
        x.price(22, 2, 1);
        x.price(23, 0, 3);
        Due.due("of -1 and 1", x.trade(22, 2, 1), -1);
        x.price(22, 1, 1);
        Due.due("1 is more", x.trade(22, 2, 1), 1);
    }

    private static void tradesThatCantBe() {
        Doc.says(25, "TRADE of a SLOT (0 .. 23) and a charge, with prices as they turned (0 .. 2); -100 if one can't be.");
        WheelStore x = new WheelStore();
        x.store(3, 3, 0);
        x.price(0, 0, 9);
        x.price(23, 0, 9);
        for (int way = 0; way <= 2; way++) {
            Due.due("SLOT 0", x.trade(0, 3, way), -3);
            Due.due("SLOT 23", x.trade(23, 3, way), -3);
        }
        for (int slot : new int[] {-1, 24, 25, MIN, MAX}) {
            Due.due("trade of SLOT " + slot, x.trade(slot, 0, 1), -100);
        }
        for (int charge : new int[] {-1, 4, MIN, MAX}) {
            Due.due("trade of a charge of " + charge, x.trade(0, charge, 1), -100);
        }
        for (int way : new int[] {-1, 3, MIN, MAX}) {
            Due.due("trade of way " + way, x.trade(0, 0, way), -100);
        }
    }

    private static void worthOfOneMore() {
        Doc.says(26, "VALUE with a charge more by 1 less that with it; -100000 if one can't be.");
        WheelStore x = new WheelStore();
        Due.due("no room for one more", x.worth(0, 0), -100000);
        Due.due("no room for one more in SLOT 24", x.worth(24, 0), -100000);
        x.store(2, 1, 0);
        x.price(23, 9, 7);
        Due.due("sold", x.worth(23, 0), 7);
        Due.due("left", x.worth(23, 1), 0);
        Due.due("the room is full", x.worth(23, 2), -100000);
        Due.due("beyond the room", x.worth(23, 3), -100000);
        Due.due("SLOT 0", x.worth(0, 1), 0);
        Due.due("SLOT 24", x.worth(24, 0), 0);
        Due.due("SLOT 24", x.worth(24, 1), 0);
        Due.due("SLOT 24, full", x.worth(24, 2), -100000);
        for (int wrong : new int[] {-1, 25, MIN, MAX}) {
            Due.due("worth in SLOT " + wrong, x.worth(wrong, 0), -100000);
            Due.due("worth at a charge of " + wrong, x.worth(0, wrong), -100000);
        }
    }

    private static void plansThatCanBe() {
        Doc.says(27, "A PLAN has a q (-9 .. 9; 0 at first) for each SLOT");
        WheelStore x = new WheelStore();
        for (int slot = 0; slot < 24; slot++) {
            Due.due("q and 9 at first", x.about(70 + slot), 9);
        }
        for (int slot : new int[] {0, 23}) {
            Due.due("plan -9", x.plan(slot, -9), true);
            Due.due("q and 9", x.about(70 + slot), 0);
            Due.due("plan 9", x.plan(slot, 9), true);
            Due.due("q and 9", x.about(70 + slot), 18);
        }
        Doc.says(27, "The PLAN's q of a SLOT: true; false, doing nothing, if one can't be.");
        int digest = x.digest();
        for (int[] w : new int[][] {{-1, 0}, {24, 0}, {0, -10}, {0, 10}, {MIN, 0}, {MAX, 0}, {0, MIN}, {0, MAX}}) {
            Due.due("plan " + w[0] + ", " + w[1], x.plan(w[0], w[1]), false);
        }
        Due.due("as ahead", x.digest(), digest);
        Due.due("no ACT", x.about(3), 4);
    }

    private static void planThatHolds() {
        Doc.says(28, "begun with a charge, at prices as told.");
        WheelStore x = new WheelStore();
        Due.due("a new PLAN", x.check(0, 0), -1);
        Due.due("its reason", x.check(0, 1), 0);
        Due.due("what comes in", x.check(0, 2), 0);
        x.store(3, 3, 0);
        x.price(0, 5, 99);
        x.price(23, 99, 7);
        x.misses(30);
        x.plan(0, 3);
        Due.due("paid", x.check(0, 2), -15);
        x.plan(23, -3);
        Due.due("paid and come in", x.check(0, 2), 6);
        Due.due("no SLOT", x.check(0, 0), -1);
        Due.due("no reason", x.check(0, 1), 0);
    }

    private static void reasonsInTheirOrder() {
        Doc.says(28, "its reason (1: beyond the rate, 2: below 0, 3: above the room)");
        WheelStore x = new WheelStore();
        x.store(3, 2, 0);
        int[][] rows = {{2, 0, 0}, {2, 1, 0}, {2, 2, 3}, {2, 3, 3}, {-2, 3, 0}, {-2, 2, 0}, {-2, 1, 2}, {-2, 0, 2}, {3, 0, 1},
            {3, 3, 1}, {-3, 3, 1}, {-3, 0, 1}, {9, 0, 1}, {-9, 3, 1}, {0, 0, 0}, {0, 3, 0}, {1, 3, 3}, {-1, 0, 2}};
        for (int slot = 0; slot < 24; slot += 23) {
            for (int[] row : rows) {
                x.plan(slot, row[0]);
                String what = row[0] + " in SLOT " + slot + " with " + row[1];
                Due.due("reason of " + what, x.check(row[1], 1), row[2]);
                Due.due("SLOT of " + what, x.check(row[1], 0), row[2] == 0 ? -1 : slot);
                Due.due("income of " + what, x.check(row[1], 2), row[2] == 0 ? 0 : -100000);
            }
            x.plan(slot, 0);
        }
    }

    private static void firstSlotThatFails() {
        Doc.says(28, "CHECK: the first SLOT at which it can't be");
        WheelStore x = new WheelStore();
        x.store(2, 2, 0);
        x.plan(5, -1);
        x.plan(7, 3);
        Due.due("the first of two", x.check(0, 0), 5);
        Due.due("its reason", x.check(0, 1), 2);
        Due.due("the other", x.check(1, 0), 7);
        Due.due("its reason", x.check(1, 1), 1);
        x.plan(7, 2);
        Due.due("just the room", x.check(1, 0), -1);
        Due.due("above the room", x.check(2, 1), 3);
        x.store(2, 2, 50);
        Due.due("the leak makes room", x.check(2, 0), -1);
        x.store(2, 1, 0);
        Due.due("the rate is less now", x.check(1, 0), 7);
        Due.due("its reason", x.check(1, 1), 1);
    }

    private static void checksThatCantBe() {
        Doc.says(28, "(-100000 if it can't be). -100001 if there is no such charge, or for another what.");
        WheelStore x = new WheelStore();
        x.store(3, 1, 0);
        x.plan(0, 9);
        Due.due("it can't be", x.check(3, 2), -100000);
        for (int charge : new int[] {-1, 4, MIN, MAX}) {
            for (int what = 0; what <= 2; what++) {
                Due.due("check " + charge + ", " + what, x.check(charge, what), -100001);
            }
        }
        for (int what : new int[] {-1, 3, MIN, MAX}) {
            Due.due("check 0, " + what, x.check(0, what), -100001);
            Due.due("check 4, " + what, x.check(4, what), -100001);
        }
    }
}
