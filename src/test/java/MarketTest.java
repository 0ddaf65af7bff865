/** Promises 21 to 28: THE STORE, its SLOTS and the PLAN. */
public final class MarketTest {
    private static final int MIN = Integer.MIN_VALUE;
    private static final int MAX = Integer.MAX_VALUE;

    public static void main(String[] args) {
        newStore();
        wrongActs();
        edgesOfActs();
        valuesAsTheModel();
        likeTrades();
        leaksAreCut();
        plansAsTheModel();
        reasonsOfAPlan();
        wrongQuestions();
        Due.close();
    }

    private static void newStore() {
        WheelStore x = new WheelStore();
        Due.promise(24);
        Due.due("value", x.value(0, 0), 0);
        Due.due("value(0, 1)", x.value(0, 1), -1);
        Due.promise(25);
        Due.due("trade", x.trade(23, 0, 0), 0);
        Due.promise(26);
        Due.due("worth without room", x.worth(0, 0), -100000);
        Due.promise(28);
        Due.due("check 0", x.check(0, 0), -1);
        Due.due("check 1", x.check(0, 1), 0);
        Due.due("check 2", x.check(0, 2), 0);
        Due.promise(27);
        x.plan(0, 1);
        Due.promise(28);
        // the rate is 1 at first, the room 0
        Due.due("check 1 above the room", x.check(0, 1), 3);
        x.plan(0, 2);
        Due.due("check 1 beyond the rate", x.check(0, 1), 1);
        x.plan(0, -1);
        Due.due("check 1 below 0", x.check(0, 1), 2);
    }

    private static void wrongActs() {
        WheelStore x = new WheelStore();
        int digest = x.digest();
        Due.promise(21);
        int[][] prices = {{-1, 0, 0}, {24, 0, 0}, {0, -1, 0}, {0, 100, 0}, {0, 0, -1}, {0, 0, 100},
            {MIN, 0, 0}, {MAX, 0, 0}, {0, MIN, 0}, {0, MAX, 0}, {0, 0, MIN}, {0, 0, MAX}};
        for (int[] p : prices) {
            Due.due("price " + p[0] + ", " + p[1] + ", " + p[2], x.price(p[0], p[1], p[2]), false);
        }
        Due.promise(22);
        int[][] stores = {{-1, 1, 0}, {31, 1, 0}, {0, 0, 0}, {0, 10, 0}, {0, 1, -1}, {0, 1, 101},
            {MIN, 1, 0}, {MAX, 1, 0}, {0, MIN, 0}, {0, MAX, 0}, {0, 1, MIN}, {0, 1, MAX}};
        for (int[] p : stores) {
            Due.due("store " + p[0] + ", " + p[1] + ", " + p[2], x.store(p[0], p[1], p[2]), false);
        }
        Due.promise(23);
        for (int by : new int[] {-1, 31, MIN, MAX}) {
            Due.due("misses " + by, x.misses(by), false);
        }
        Due.promise(27);
        int[][] plans = {{-1, 0}, {24, 0}, {0, -10}, {0, 10}, {MIN, 0}, {MAX, 0}, {0, MIN}, {0, MAX}};
        for (int[] p : plans) {
            Due.due("plan " + p[0] + ", " + p[1], x.plan(p[0], p[1]), false);
        }
        Due.promise(47);
        Due.due("as ahead", x.digest(), digest);
        Due.due("no ACT", x.about(3), 0);
    }

    private static void edgesOfActs() {
        WheelStore x = new WheelStore();
        Due.promise(21);
        Due.due("price 0", x.price(0, 99, 0), true);
        Due.due("price 23", x.price(23, 0, 99), true);
        Due.due("buy", x.about(10), 99);
        Due.due("sell", x.about(63), 99);
        Due.promise(22);
        Due.due("store", x.store(0, 1, 0), true);
        Due.due("store", x.store(30, 9, 100), true);
        Due.promise(23);
        Due.due("misses", x.misses(30), true);
        Due.due("misses", x.misses(0), true);
        Due.promise(27);
        Due.due("plan", x.plan(0, -9), true);
        Due.due("plan", x.plan(23, 9), true);
        Due.due("plan's q", x.about(70), 0);
        Due.due("plan's q", x.about(93), 18);
        Due.promise(48);
        Due.due("all are ACTS", x.about(3), 8);
        Due.due("the same once more is an ACT", x.plan(23, 9), true);
        Due.due("about(3)", x.about(3), 9);
    }

    // ---- a model of THE STORE

    private static final class Model {
        int room;
        int rate = 1;
        int leak;
        int by;
        final int[] buy = new int[24];
        final int[] sell = new int[24];
        final int[] plan = new int[24];
        final int[][] value = new int[25][31];
        int reason;
        int slot;

        void work() {
            for (int s = 23; s >= 0; s--) {
                for (int c = 0; c <= room; c++) {
                    value[s][c] = Math.min(comes(s, c, trade(s, c, 0), 0), comes(s, c, trade(s, c, 2), 2));
                }
            }
        }

        int comes(int s, int c, int q, int way) {
            int b = way == 0 ? Math.max(0, buy[s] - by) : way == 2 ? buy[s] + by : buy[s];
            int e = way == 0 ? Math.max(0, sell[s] - by) : way == 2 ? sell[s] + by : sell[s];
            return (q > 0 ? -q * b : -q * e) + value[s + 1][left(c + q)];
        }

        int left(int c) {
            int lost = c * leak / 100;
            return c - lost;
        }

        int trade(int s, int c, int way) {
            int best = 0;
            for (int q = -rate; q <= rate; q++) {
                if (c + q < 0 || c + q > room) {
                    continue;
                }
                int more = comes(s, c, q, way) - comes(s, c, best, way);
                boolean first = Math.abs(q) < Math.abs(best) || Math.abs(q) == Math.abs(best) && q < best;
                if (more > 0 || more == 0 && first) {
                    best = q;
                }
            }
            return best;
        }

        int check(int charge) {
            int c = charge;
            int in = 0;
            slot = -1;
            reason = 0;
            for (int s = 0; s < 24; s++) {
                int q = plan[s];
                reason = q > rate || -q > rate ? 1 : c + q < 0 ? 2 : c + q > room ? 3 : 0;
                if (reason > 0) {
                    slot = s;
                    return -100000;
                }
                in += q > 0 ? -q * buy[s] : -q * sell[s];
                c = left(c + q);
            }
            return in;
        }
    }

    private static void valuesAsTheModel() {
        Due.Numbers numbers = new Due.Numbers(24);
        for (int run = 0; run < 120; run++) {
            Model m = new Model();
            WheelStore x = new WheelStore();
            m.room = numbers.from(0, numbers.coin() ? 30 : 6);
            m.rate = numbers.from(1, numbers.coin() ? 9 : 3);
            m.leak = numbers.below(3) == 0 ? numbers.from(0, 100) : numbers.from(0, 1) * 9;
            m.by = numbers.coin() ? 0 : numbers.from(0, 30);
            Due.promise(22);
            Due.due("store", x.store(m.room, m.rate, m.leak), true);
            Due.promise(23);
            Due.due("misses", x.misses(m.by), true);
            Due.promise(21);
            int high = numbers.coin() ? 99 : 4;
            for (int s = 0; s < 24; s++) {
                if (numbers.below(4) > 0) {
                    m.buy[s] = numbers.from(0, high);
                    m.sell[s] = numbers.from(0, high);
                    Due.due("price", x.price(s, m.buy[s], m.sell[s]), true);
                }
            }
            m.work();
            for (int turn = 0; turn < 60; turn++) {
                compareAt(m, x, numbers.from(0, 24), numbers.from(-1, m.room + 1), numbers.from(-1, 3));
            }
        }
    }

    private static void compareAt(Model m, WheelStore x, int s, int c, int way) {
        String what = s + ", " + c + " with room " + m.room + ", rate " + m.rate + ", leak " + m.leak + ", by " + m.by;
        boolean charge = c >= 0 && c <= m.room;
        Due.promise(24);
        Due.due("value " + what, x.value(s, c), charge ? m.value[s][c] : -1);
        Due.promise(26);
        Due.due("worth " + what, x.worth(s, c), charge && c < m.room ? m.value[s][c + 1] - m.value[s][c] : -100000);
        Due.promise(25);
        boolean can = charge && s < 24 && way >= 0 && way <= 2;
        Due.due("trade " + way + " " + what, x.trade(s, c, way), can ? m.trade(s, c, way) : -100);
    }

    private static void likeTrades() {
        WheelStore x = new WheelStore();
        Due.promise(25);
        x.store(5, 3, 0);
        Due.due("nothing is worth anything", x.trade(0, 2, 1), 0);
        x.store(4, 1, 0);
        x.price(22, 0, 1);
        x.price(23, 0, 1);
        Due.due("sold now or then is the same", x.trade(22, 1, 1), 0);
        Due.due("one for nothing", x.trade(22, 0, 1), 1);
        Due.due("one now and one then", x.trade(22, 2, 1), -1);
        x.store(5, 3, 0);
        Due.due("of four no more than three are sold then", x.trade(22, 4, 1), -1);
        x.price(22, 2, 2);
        x.price(23, 0, 3);
        Due.due("buy two as three are sold then", x.trade(22, 1, 1), 2);
        Due.due("buy three", x.trade(22, 0, 1), 3);
        x.price(22, 3, 2);
        Due.due("buy for what is the same", x.trade(22, 0, 1), 0);
        // 2 are in it. Sold one: 1 and 3; kept: 3; bought one: 6 less 2, as the leak takes 1 of 2 and of 3
        x.store(3, 2, 53);
        x.price(22, 2, 1);
        x.price(23, 0, 3);
        Due.due("of like ones the one below 0", x.trade(22, 2, 1), -1);
        x.price(22, 1, 1);
        Due.due("the one above 0 is more", x.trade(22, 2, 1), 1);
        x.price(22, 2, 1);
        x.misses(1);
        // SLOT 23 turns out to bring 2 or 4, of which 2 is sure
        Due.due("by prices that turned less: like ones", x.trade(22, 2, 0), 1);
        Due.due("by prices as told", x.trade(22, 2, 1), -1);
        Due.due("by prices that turned more", x.trade(22, 2, 2), -1);
    }

    private static void leaksAreCut() {
        Due.promise(28);
        // of 3, at 50 of a hundred 1 is lost (1.5 cut); at 100 all
        leaves(3, 50, 2);
        leaves(1, 99, 1);
        leaves(2, 49, 2);
        leaves(2, 50, 1);
        leaves(30, 3, 30);
        leaves(30, 4, 29);
        leaves(30, 100, 0);
        leaves(30, 0, 30);
        leaves(10, 9, 10);
        leaves(10, 10, 9);
    }

    private static void leaves(int charge, int leak, int left) {
        WheelStore x = new WheelStore();
        x.store(30, 9, leak);
        x.price(1, 0, 1);
        // from SLOT 1 on as much is sold as can be; behind it more is lost, so SLOT 1 alone tells up to 9
        for (int q = 0; q <= 9; q++) {
            x.plan(1, -q);
            Due.due("check with " + charge + " at " + leak + " and " + q, x.check(charge, 1), q <= left ? 0 : 2);
            if (q <= left) {
                Due.due("what comes in", x.check(charge, 2), q);
            }
        }
        x.plan(1, 9);
        Due.due("room for 9 more", x.check(charge, 0), left + 9 <= 30 ? -1 : 1);
        x.store(left > 0 ? Math.max(charge, left + 8) : charge, 9, leak);
        x.store(30, 9, leak);
        if (left < 30) {
            x.plan(1, Math.min(9, 30 - left));
            Due.due("room for the rest", x.check(charge, 0), -1);
        }
    }

    private static void plansAsTheModel() {
        Due.Numbers numbers = new Due.Numbers(28);
        for (int run = 0; run < 200; run++) {
            Model m = new Model();
            WheelStore x = new WheelStore();
            m.room = numbers.from(0, 30);
            m.rate = numbers.from(1, 9);
            m.leak = numbers.coin() ? 0 : numbers.from(0, 40);
            m.by = numbers.from(0, 30);
            x.store(m.room, m.rate, m.leak);
            x.misses(m.by);
            for (int s = 0; s < 24; s++) {
                m.buy[s] = numbers.from(0, 99);
                m.sell[s] = numbers.from(0, 99);
                x.price(s, m.buy[s], m.sell[s]);
            }
            for (int turn = 0; turn < 20; turn++) {
                int s = numbers.from(0, 23);
                int q = numbers.below(8) == 0 ? numbers.from(-9, 9) : numbers.from(-1, 2);
                m.plan[s] = q;
                Due.promise(27);
                Due.due("plan", x.plan(s, q), true);
                Due.due("about", x.about(70 + s), q + 9);
                int charge = numbers.from(0, m.room);
                int in = m.check(charge);
                Due.promise(28);
                Due.due("check 0", x.check(charge, 0), m.slot);
                Due.due("check 1", x.check(charge, 1), m.reason);
                Due.due("check 2", x.check(charge, 2), in);
            }
        }
    }

    private static void reasonsOfAPlan() {
        Due.promise(28);
        WheelStore x = new WheelStore();
        x.store(3, 2, 0);
        x.plan(23, -3);
        // beyond the rate and below 0: the first reason
        Due.due("the last SLOT", x.check(0, 0), 23);
        Due.due("beyond the rate", x.check(0, 1), 1);
        x.plan(23, 3);
        Due.due("beyond the rate, above the room", x.check(3, 1), 1);
        x.plan(23, 2);
        Due.due("above the room", x.check(2, 1), 3);
        Due.due("just within", x.check(1, 0), -1);
        x.plan(23, -2);
        Due.due("below 0", x.check(1, 1), 2);
        Due.due("just within", x.check(2, 1), 0);
        x.price(23, 7, 5);
        x.misses(3);
        Due.due("at prices as told", x.check(2, 2), 10);
        x.plan(23, 1);
        Due.due("at prices as told", x.check(2, 2), -7);
    }

    private static void wrongQuestions() {
        WheelStore x = new WheelStore();
        x.store(5, 2, 0);
        Due.promise(24);
        int[][] wrong = {{-1, 0}, {25, 0}, {0, -1}, {0, 6}, {MIN, 0}, {MAX, 0}, {0, MIN}, {0, MAX}};
        for (int[] w : wrong) {
            Due.promise(24);
            Due.due("value " + w[0] + ", " + w[1], x.value(w[0], w[1]), -1);
            Due.promise(25);
            Due.due("trade " + w[0] + ", " + w[1], x.trade(w[0], w[1], 1), -100);
            Due.promise(26);
            Due.due("worth " + w[0] + ", " + w[1], x.worth(w[0], w[1]), -100000);
        }
        Due.promise(24);
        Due.due("value(24, 5)", x.value(24, 5), 0);
        Due.promise(25);
        Due.due("trade(24)", x.trade(24, 0, 1), -100);
        for (int way : new int[] {-1, 3, MIN, MAX}) {
            Due.due("trade way " + way, x.trade(0, 0, way), -100);
        }
        Due.promise(26);
        Due.due("worth(24, 4)", x.worth(24, 4), 0);
        Due.due("worth(24, 5)", x.worth(24, 5), -100000);
        Due.due("worth(0, 5)", x.worth(0, 5), -100000);
        Due.promise(28);
        for (int charge : new int[] {-1, 6, MIN, MAX}) {
            Due.due("check " + charge, x.check(charge, 0), -100001);
            Due.due("check " + charge, x.check(charge, 2), -100001);
        }
        for (int what : new int[] {-1, 3, MIN, MAX}) {
            Due.due("check what " + what, x.check(0, what), -100001);
        }
    }
}
