/** Promises 29 to 32: HOLES, SHAKE and what runs STILL. */
public final class BalanceTest {
    private static final int MIN = Integer.MIN_VALUE;
    private static final int MAX = Integer.MAX_VALUE;

    public static void main(String[] args) {
        holesAndShake();
        stillAsTheModel();
        likeWays();
        farthest();
        Due.close();
    }

    private static void holesAndShake() {
        WheelStore x = new WheelStore();
        int digest = x.digest();
        Due.promise(29);
        int[][] wrong = {{-100, 0, 1}, {100, 0, 1}, {0, -100, 1}, {0, 100, 1}, {0, 0, 0}, {0, 0, 3}, {0, 0, -1},
            {MIN, 0, 1}, {MAX, 0, 1}, {0, MIN, 1}, {0, MAX, 1}, {0, 0, MIN}, {0, 0, MAX}};
        for (int[] w : wrong) {
            Due.due("hole " + w[0] + ", " + w[1] + ", " + w[2], x.hole(w[0], w[1], w[2]), -1);
        }
        Due.promise(30);
        int[][] shakes = {{-1000, 0}, {1000, 0}, {0, -1000}, {0, 1000}, {MIN, 0}, {MAX, 0}, {0, MIN}, {0, MAX}};
        for (int[] w : shakes) {
            Due.due("shake " + w[0] + ", " + w[1], x.shake(w[0], w[1]), false);
        }
        Due.due("as ahead", x.digest(), digest);
        Due.due("no ACT", x.about(3), 0);
        Due.promise(31);
        Due.due("off at first", x.off(), 0);
        Due.promise(30);
        Due.due("shake", x.shake(-999, 999), true);
        Due.promise(31);
        Due.due("off without HOLES", x.off(), 2 * 999 * 999);
        Due.promise(29);
        for (int n = 0; n < 9; n++) {
            Due.promise(32);
            Due.due("weights of a HOLE to come", x.weights(n), -1);
            Due.promise(29);
            Due.due("hole " + n, x.hole(n % 2 == 0 ? -99 : 99, n % 3 == 0 ? 99 : -99, 1 + n % 2), n);
        }
        digest = x.digest();
        Due.due("tenth hole", x.hole(0, 0, 1), -1);
        Due.due("about(2)", x.about(2), 9);
        Due.due("about(3)", x.about(3), 10);
        Due.due("as ahead", x.digest(), digest);
        Due.promise(32);
        for (int hole : new int[] {-1, 9, 10, MIN, MAX}) {
            Due.due("weights " + hole, x.weights(hole), -1);
        }
        Due.promise(30);
        Due.due("shake", x.shake(999, -999), true);
        Due.due("shake", x.shake(0, 0), true);
        Due.promise(31);
        Due.due("off at rest", x.off(), 0);
    }

    private static void stillAsTheModel() {
        Due.Numbers numbers = new Due.Numbers(31);
        for (int run = 0; run < 150; run++) {
            WheelStore x = new WheelStore();
            int holes = numbers.from(0, 9);
            int far = numbers.coin() ? 99 : 3;
            int[][] at = new int[holes][];
            for (int n = 0; n < holes; n++) {
                at[n] = new int[] {numbers.from(-far, far), numbers.from(-far, far), numbers.from(1, 2)};
                x.hole(at[n][0], at[n][1], at[n][2]);
            }
            for (int turn = 0; turn < 3; turn++) {
                int wide = turn == 0 ? far * 10 : far * 4;
                int sx = Math.max(-999, Math.min(999, numbers.from(-wide, wide)));
                int sy = Math.max(-999, Math.min(999, numbers.from(-wide, wide)));
                x.shake(sx, sy);
                compare(x, at, sx, sy);
            }
        }
    }

    private static void compare(WheelStore x, int[][] at, int sx, int sy) {
        int ways = 1;
        for (int n = 0; n < at.length; n++) {
            ways *= 3;
        }
        int[] best = null;
        for (int way = 0; way < ways; way++) {
            int[] row = row(at, way, sx, sy);
            if (row != null && (best == null || isAhead(row, best))) {
                best = row;
            }
        }
        Due.promise(32);
        for (int n = 0; n < at.length; n++) {
            Due.due("weights " + n, x.weights(n), best[2 + n]);
        }
        Due.promise(31);
        Due.due("off", x.off(), best[0]);
    }

    /** OFF, all WEIGHTS, and those of each HOLE: the least of such rows is STILL. */
    private static int[] row(int[][] at, int way, int sx, int sy) {
        int[] row = new int[2 + at.length];
        int x = sx;
        int y = sy;
        for (int n = 0, rest = way; n < at.length; n++, rest /= 3) {
            int many = rest % 3;
            if (many > at[n][2]) {
                return null;
            }
            row[1] += many;
            row[2 + n] = many;
            x += many * at[n][0];
            y += many * at[n][1];
        }
        row[0] = x * x + y * y;
        return row;
    }

    private static boolean isAhead(int[] one, int[] other) {
        for (int i = 0; i < one.length; i++) {
            if (one[i] != other[i]) {
                return one[i] < other[i];
            }
        }
        return false;
    }

    private static void likeWays() {
        WheelStore x = new WheelStore();
        x.shake(4, 0);
        x.hole(-2, 0, 1);
        x.hole(-2, 0, 1);
        x.hole(-2, 0, 2);
        x.hole(-1, 0, 2);
        Due.promise(31);
        Due.due("off", x.off(), 0);
        Due.promise(32);
        Due.due("the first by HOLES", x.weights(0), 0);
        Due.due("the first by HOLES", x.weights(1), 0);
        Due.due("the first by HOLES", x.weights(2), 2);
        Due.due("the fewest in all", x.weights(3), 0);
        x.hole(-4, 0, 1);
        Due.due("the fewest in all", x.weights(2), 0);
        Due.due("the fewest in all", x.weights(4), 1);
        Due.promise(45);
        x.undo();
        Due.due("weights behind undo", x.weights(2), 2);
        Due.due("weights of a HOLE that is no more", x.weights(4), -1);
    }

    private static void farthest() {
        Due.promise(31);
        WheelStore x = new WheelStore();
        for (int n = 0; n < 9; n++) {
            x.hole(99, 99, 2);
        }
        x.shake(999, 999);
        Due.due("off: none helps", x.off(), 2 * 999 * 999);
        Due.promise(32);
        Due.due("none is put in", x.weights(8), 0);
        x.shake(-999, -999);
        Due.promise(31);
        Due.due("off: ten of eighteen", x.off(), 2 * 9 * 9);
        Due.promise(32);
        Due.due("the first by HOLES", x.weights(0), 0);
        Due.due("the first by HOLES", x.weights(3), 0);
        Due.due("the first by HOLES", x.weights(4), 2);
        Due.due("the first by HOLES", x.weights(8), 2);
    }
}
