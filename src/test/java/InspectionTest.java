import java.math.BigInteger;

/** Promises 35 to 38: CRACKS, costs and LOOKS. */
public final class InspectionTest {
    private static final int MIN = Integer.MIN_VALUE;
    private static final int MAX = Integer.MAX_VALUE;

    public static void main(String[] args) {
        acts();
        newRing();
        costsAsTheModel();
        looksAsTheModel();
        longRuns();
        likeLooks();
        wrongQuestions();
        Due.close();
    }

    private static void acts() {
        WheelStore x = new WheelStore();
        int digest = x.digest();
        Due.promise(35);
        int[][] cracks = {{-1, 0, 1, 1}, {9, 0, 1, 1}, {0, 9, 1, 1}, {0, -1, 1, 1}, {4, 5, 1, 1}, {9, -1, 1, 1}, {0, 0, 0, 1},
            {0, 0, 21, 1}, {0, 0, 1, 0}, {0, 0, 1, 21}, {MIN, 0, 1, 1}, {MAX, 0, 1, 1}, {0, MIN, 1, 1}, {0, MAX, 1, 1},
            {MIN, MAX, 1, 1}, {MAX, MAX, 1, 1}, {MIN, MIN, 1, 1}, {0, 0, MIN, 1}, {0, 0, MAX, 1}, {0, 0, 1, MIN}, {0, 0, 1, MAX}};
        for (int[] c : cracks) {
            Due.due("cracks " + c[0] + ", " + c[1] + ", " + c[2] + ", " + c[3], x.cracks(c[0], c[1], c[2], c[3]), false);
        }
        Due.promise(36);
        int[][] costs = {{-1, 0, 0}, {10000, 0, 0}, {0, -1, 0}, {0, 10000, 0}, {0, 0, -1}, {0, 0, 10000},
            {MIN, 0, 0}, {MAX, 0, 0}, {0, MIN, 0}, {0, MAX, 0}, {0, 0, MIN}, {0, 0, MAX}};
        for (int[] c : costs) {
            Due.due("costs " + c[0] + ", " + c[1] + ", " + c[2], x.costs(c[0], c[1], c[2]), false);
        }
        Due.due("as ahead", x.digest(), digest);
        Due.due("no ACT", x.about(3), 0);
        Due.due("costs 0", x.costs(0, 0, 0), true);
        Due.due("costs 9999", x.costs(9999, 9999, 9999), true);
        Due.promise(35);
        Due.due("cracks 8, 0, 20, 20", x.cracks(8, 0, 20, 20), true);
        Due.due("as ahead", x.digest() == digest, false);
        Due.due("cracks 0, 8, 1, 1", x.cracks(0, 8, 1, 1), true);
        Due.due("cracks 0, 0, 1, 20", x.cracks(0, 0, 1, 20), true);
        Due.due("ACTS", x.about(3), 5);
    }

    private static void newRing() {
        Due.promise(35);
        WheelStore x = new WheelStore();
        int digest = x.digest();
        x.cracks(8, 0, 20, 20);
        Due.due("8, 0, 20, 20 at first", x.digest(), digest);
        Due.promise(36);
        x.costs(7, 9, 9999);
        Due.promise(37);
        Due.due("nothing grows", x.cost(10, 0, 0), 0);
        Due.due("nothing grows", x.cost(10, 0, 1), 1);
        Due.due("all LOOKS", x.cost(10, 1023, 0), 70);
        Due.promise(38);
        Due.due("looks", x.looks(10), 0);
    }

    // ---- a model: all ways in which cracks grow, each with its chance

    private static final class Model {
        int grow0;
        int grow1;
        int breaks;
        int seen;
        int look;
        int ring;
        int burst;

        static Model made(Due.Numbers numbers) {
            Model m = new Model();
            m.grow0 = numbers.from(0, 8);
            m.grow1 = numbers.from(0, 8 - m.grow0);
            int high = numbers.coin() ? 20 : 4;
            m.breaks = numbers.from(1, high);
            m.seen = numbers.from(1, high);
            int dear = numbers.coin() ? 9999 : 20;
            m.look = numbers.from(0, numbers.coin() ? dear : dear / 20);
            m.ring = numbers.from(0, dear);
            m.burst = numbers.from(0, dear);
            return m;
        }

        WheelStore store() {
            WheelStore x = new WheelStore();
            Due.promise(35);
            Due.due("cracks", x.cracks(grow0, grow1, breaks, seen), true);
            Due.promise(36);
            Due.due("costs", x.costs(look, ring, burst), true);
            return x;
        }

        /** In the 8 to the rounds-th parts. */
        BigInteger cost(int rounds, int looks) {
            return from(0, rounds, looks, 0);
        }

        private BigInteger from(int round, int rounds, int looks, int crack) {
            if (round == rounds) {
                return BigInteger.ZERO;
            }
            BigInteger sum = BigInteger.ZERO;
            int[] chances = {grow0, grow1, 8 - grow0 - grow1};
            for (int grown = 0; grown < 3; grown++) {
                if (chances[grown] == 0) {
                    continue;
                }
                int now = crack + grown;
                int paid = 0;
                if (now >= breaks) {
                    paid += burst;
                    now = 0;
                }
                if ((looks >> round & 1) == 1) {
                    paid += look;
                    if (now >= seen) {
                        paid += ring;
                        now = 0;
                    }
                }
                BigInteger behind = BigInteger.valueOf(paid).shiftLeft(3 * (rounds - round - 1));
                sum = sum.add(behind.add(from(round + 1, rounds, looks, now)).multiply(BigInteger.valueOf(chances[grown])));
            }
            return sum;
        }

        int looks(int rounds) {
            int best = 0;
            BigInteger least = cost(rounds, 0);
            for (int looks = 1; looks < 1 << rounds; looks++) {
                BigInteger cost = cost(rounds, looks);
                int less = cost.compareTo(least);
                if (less < 0 || less == 0 && Integer.bitCount(looks) < Integer.bitCount(best)) {
                    least = cost;
                    best = looks;
                }
            }
            return best;
        }
    }

    private static void compareCost(Model m, WheelStore x, int rounds, int looks) {
        BigInteger up = m.cost(rounds, looks);
        BigInteger low = BigInteger.ONE.shiftLeft(3 * rounds);
        BigInteger shared = up.gcd(low);
        Due.promise(37);
        String what = rounds + ", " + looks + " by " + m.grow0 + ", " + m.grow1 + ", " + m.breaks + ", " + m.seen;
        Due.due("cost " + what, x.cost(rounds, looks, 0), up.divide(shared).longValueExact());
        Due.due("cost lower " + what, x.cost(rounds, looks, 1), low.divide(shared).longValueExact());
    }

    private static void costsAsTheModel() {
        Due.Numbers numbers = new Due.Numbers(37);
        for (int run = 0; run < 150; run++) {
            Model m = Model.made(numbers);
            WheelStore x = m.store();
            for (int turn = 0; turn < 6; turn++) {
                int rounds = numbers.from(1, 7);
                compareCost(m, x, rounds, numbers.below(1 << rounds));
            }
        }
    }

    private static void looksAsTheModel() {
        Due.Numbers numbers = new Due.Numbers(38);
        for (int run = 0; run < 200; run++) {
            Model m = Model.made(numbers);
            WheelStore x = m.store();
            int rounds = numbers.from(1, run % 10 == 0 ? 6 : 4);
            int looks = m.looks(rounds);
            Due.promise(38);
            Due.due("looks " + rounds, x.looks(rounds), looks);
            compareCost(m, x, rounds, looks);
            Due.promise(38);
            Due.due("looks 1", x.looks(1), m.looks(1));
            Due.due("looks again " + rounds, x.looks(rounds), looks);
        }
    }

    private static void longRuns() {
        Model m = new Model();
        m.breaks = 20;
        m.seen = 20;
        m.burst = 9999;
        m.look = 9999;
        m.ring = 9999;
        // grows by 2 in each ROUND: it is 20 in ROUND 9
        WheelStore x = m.store();
        compareCost(m, x, 10, 1023);
        compareCost(m, x, 10, 0);
        Due.promise(37);
        Due.due("bursts in ROUND 9", x.cost(10, 0, 0), 9999);
        Due.due("not yet in ROUND 8", x.cost(9, 0, 0), 0);
        Due.due("looks cost", x.cost(10, 1023, 0), 11 * 9999);
        x.cracks(0, 0, 20, 18);
        Due.due("18 is found in ROUND 8", x.cost(10, 256, 0), 2 * 9999);
        Due.due("18 is found in ROUND 8", x.cost(9, 256, 0), 2 * 9999);
        Due.due("16 is not found in ROUND 7", x.cost(10, 128, 0), 2 * 9999);
        m.grow0 = 3;
        m.grow1 = 2;
        m.breaks = 5;
        m.seen = 2;
        x = m.store();
        for (int looks : new int[] {0, 1, 512, 1023, 341, 682}) {
            compareCost(m, x, 10, looks);
        }
        m.look = 3;
        m.ring = 100;
        x = m.store();
        int looks = x.looks(10);
        Due.promise(38);
        long least = x.cost(10, looks, 0) * ((1 << 30) / x.cost(10, looks, 1));
        for (int other = 0; other < 1024; other++) {
            long cost = x.cost(10, other, 0) * ((1 << 30) / x.cost(10, other, 1));
            int more = Integer.bitCount(other) - Integer.bitCount(looks);
            boolean ahead = cost < least || cost == least && (more < 0 || more == 0 && other < looks);
            Due.due("LOOKS " + other + " ahead of " + looks, ahead, false);
        }
    }

    private static void likeLooks() {
        Due.promise(38);
        WheelStore x = new WheelStore();
        Due.due("all cost nothing", x.looks(10), 0);
        // grows by 1 each ROUND and bursts at 3: one look in ROUND 0 or 1 of 3 keeps it whole
        x.cracks(0, 8, 3, 1);
        x.costs(1, 1, 100);
        Due.due("of like ones the least number", x.looks(3), 1);
        Due.due("two looks of five rounds, the least number", x.looks(5), 5);
        x.costs(0, 0, 100);
        Due.due("looks cost nothing, the fewest", x.looks(4), 2);
        x.costs(0, 0, 0);
        Due.due("of like ones none", x.looks(4), 0);
        Due.promise(45);
        x.undo();
        Due.due("looks behind undo", x.looks(4), 2);
        x.undo();
        Due.due("looks behind undo", x.looks(5), 5);
        // a crack that is new is never found
        x.cracks(0, 8, 1, 1);
        Due.promise(37);
        Due.due("it bursts each time", x.cost(3, 7, 0), 303);
    }

    private static void wrongQuestions() {
        WheelStore x = new WheelStore();
        x.cracks(4, 4, 1, 1);
        x.costs(1, 2, 3);
        Due.promise(37);
        int[][] wrong = {{0, 0, 0}, {11, 0, 0}, {-1, 0, 0}, {1, -1, 0}, {1, 2, 0}, {3, 8, 0}, {10, 1024, 0}, {1, 0, -1},
            {1, 0, 2}, {31, 0, 0}, {32, 0, 0}, {33, 0, 0}, {MIN, 0, 0}, {MAX, 0, 0}, {1, MIN, 0}, {1, MAX, 0}, {1, 0, MIN}, {1, 0, MAX}};
        for (int[] w : wrong) {
            Due.due("cost " + w[0] + ", " + w[1] + ", " + w[2], x.cost(w[0], w[1], w[2]), -1);
        }
        Due.due("cost 10, 1023", x.cost(10, 1023, 1) > 0, true);
        Due.due("cost 3, 7", x.cost(3, 7, 1) > 0, true);
        Due.promise(38);
        for (int rounds : new int[] {0, -1, 11, 32, MIN, MAX}) {
            Due.due("looks " + rounds, x.looks(rounds), -1);
        }
    }
}
