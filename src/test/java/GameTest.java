import java.util.HashMap;
import java.util.Map;

/** Promises 13 to 20: THE GAME. */
public final class GameTest {
    public static void main(String[] args) {
        wheels();
        wrongPlaces();
        playsAsTheModel();
        everyState();
        deepestGame();
        eachOfItsOwnWheels();
        playMoves();
        wheelsOfAPlayToldAgain();
        wrongMoves();
        eightMoves();
        wheelEndsThePlay();
        Due.close();
    }

    // ---- a model: the words of the document, with nothing left out of the search

    private static final class Model {
        final int[] room = new int[3];
        final int[] rate = new int[3];
        final Map<Integer, Integer> known = new HashMap<>();
        int give;

        Model(int... wheels) {
            for (int i = 0; i < wheels.length; i += 2) {
                room[i / 2] = wheels[i];
                rate[i / 2] = wheels[i + 1];
            }
        }

        WheelStore store() {
            WheelStore x = new WheelStore();
            for (int i = 0; i < 3 && rate[i] > 0; i++) {
                x.wheel(room[i], rate[i]);
            }
            return x;
        }

        int worst(int t, int b, int[] c) {
            if (t == 0) {
                return 0;
            }
            int key = (((t * 20 + b) * 10 + c[0]) * 10 + c[1]) * 10 + c[2];
            Integer before = known.get(key);
            if (before != null) {
                return before;
            }
            int most = -1;
            for (int d = 0; d <= 6 && d <= b; d++) {
                most = Math.max(most, upon(t, b, c, d));
            }
            known.put(key, most);
            return most;
        }

        int call(int t, int b, int[] c) {
            int most = worst(t, b, c);
            int d = 0;
            while (upon(t, b, c, d) != most) {
                d++;
            }
            return d;
        }

        /** The least SHORT upon a call; the first way to give is left in give. */
        int upon(int t, int b, int[] c, int d) {
            int least = Integer.MAX_VALUE;
            int first = -1;
            for (int way = 0; way < 343; way++) {
                int[] g = {way / 49, way / 7 % 7, way % 7};
                if (!can(c, g, d)) {
                    continue;
                }
                int all = d - g[0] - g[1] - g[2] + worst(t - 1, b - d, behind(c, g));
                if (all < least) {
                    least = all;
                    first = 100 * g[0] + 10 * g[1] + g[2];
                }
            }
            give = first;
            return least;
        }

        boolean can(int[] c, int[] g, int d) {
            int sum = 0;
            for (int i = 0; i < 3; i++) {
                if (g[i] > rate[i] || g[i] > c[i]) {
                    return false;
                }
                sum += g[i];
            }
            return sum <= d;
        }

        int[] behind(int[] c, int[] g) {
            int[] next = new int[3];
            for (int i = 0; i < 3; i++) {
                next[i] = g[i] > 0 ? c[i] - g[i] : Math.min(room[i], c[i] + 1);
            }
            return next;
        }
    }

    private static void wheels() {
        Due.promise(13);
        WheelStore x = new WheelStore();
        int[][] wrong = {{-1, 1}, {7, 1}, {0, 0}, {0, 7}, {0, -1}, {Integer.MAX_VALUE, 1}, {Integer.MIN_VALUE, 1},
            {1, Integer.MAX_VALUE}, {1, Integer.MIN_VALUE}};
        for (int[] w : wrong) {
            Due.due("wheel " + w[0] + ", " + w[1], x.wheel(w[0], w[1]), -1);
        }
        Due.due("about(1)", x.about(1), 0);
        Due.due("about(3)", x.about(3), 0);
        Due.due("first wheel", x.wheel(0, 1), 0);
        Due.due("second wheel", x.wheel(6, 6), 1);
        Due.due("wrong wheel", x.wheel(7, 6), -1);
        Due.due("third wheel", x.wheel(3, 2), 2);
        int digest = x.digest();
        Due.due("fourth wheel", x.wheel(1, 1), -1);
        Due.due("about(1)", x.about(1), 3);
        Due.due("about(3)", x.about(3), 3);
        Due.due("as ahead", x.digest(), digest);
    }

    private static void wrongPlaces() {
        WheelStore x = new WheelStore();
        x.wheel(2, 3);
        x.wheel(4, 1);
        int min = Integer.MIN_VALUE;
        int max = Integer.MAX_VALUE;
        int[][] wrong = {{-1, 0, 0, 0, 0}, {9, 0, 0, 0, 0}, {0, -1, 0, 0, 0}, {1, 13, 0, 0, 0}, {1, 1, -1, 0, 0},
            {1, 1, 3, 0, 0}, {1, 1, 0, 5, 0}, {1, 1, 0, -1, 0}, {1, 1, 0, 0, 1}, {1, 1, 0, 0, -1},
            {min, 1, 0, 0, 0}, {max, 1, 0, 0, 0}, {1, min, 0, 0, 0}, {1, max, 0, 0, 0}, {1, 1, min, 0, 0},
            {1, 1, max, 0, 0}, {1, 1, 0, min, 0}, {1, 1, 0, max, 0}, {1, 1, 0, 0, min}, {1, 1, 0, 0, max}};
        for (int[] w : wrong) {
            String what = w[0] + ", " + w[1] + ", " + w[2] + ", " + w[3] + ", " + w[4];
            Due.promise(14);
            Due.due("worst " + what, x.worst(w[0], w[1], w[2], w[3], w[4]), -1);
            Due.promise(15);
            Due.due("call " + what, x.call(w[0], w[1], w[2], w[3], w[4]), -1);
            Due.promise(16);
            Due.due("give " + what, x.give(w[0], w[1], w[2], w[3], w[4], 0), -1);
            Due.promise(17);
            Due.due("begin " + what, x.begin(w[0], w[1], w[2], w[3], w[4]), false);
        }
        Due.due("no ACT", x.about(3), 2);
        Due.promise(14);
        Due.due("worst without TICKS", x.worst(0, 12, 2, 4, 0), 0);
        Due.due("worst without CALLS", x.worst(8, 0, 0, 0, 0), 0);
        Due.promise(15);
        Due.due("call without TICKS", x.call(0, 12, 2, 4, 0), -1);
        Due.due("call without CALLS", x.call(1, 0, 2, 4, 0), 0);
        Due.promise(16);
        Due.due("give without TICKS", x.give(0, 12, 2, 4, 0, 0), -1);
        for (int call : new int[] {-1, 7, 12, min, max}) {
            Due.due("give upon " + call, x.give(1, 12, 2, 4, 0, call), -1);
        }
        Due.due("give upon more than is left", x.give(1, 5, 2, 4, 0, 6), -1);
        Due.due("give upon 6", x.give(1, 6, 2, 4, 0, 6), 210);
        Due.due("give upon 0", x.give(1, 6, 2, 4, 0, 0), 0);
        Due.promise(17);
        Due.due("begin at the edges", x.begin(8, 12, 2, 4, 0), true);
        Due.due("begin with nothing", x.begin(0, 0, 0, 0, 0), true);
    }

    private static void playsAsTheModel() {
        Due.Numbers numbers = new Due.Numbers(14);
        for (int run = 0; run < 120; run++) {
            Model m = made(numbers);
            WheelStore x = m.store();
            for (int turn = 0; turn < 12; turn++) {
                int t = numbers.from(0, 5);
                int b = numbers.from(0, 12);
                int[] c = new int[3];
                for (int i = 0; i < 3; i++) {
                    c[i] = numbers.from(0, m.room[i]);
                }
                compare(m, x, t, b, c, numbers.from(0, 6));
            }
        }
    }

    private static Model made(Due.Numbers numbers) {
        int[] wheels = new int[2 * numbers.from(0, 3)];
        for (int i = 0; i < wheels.length; i += 2) {
            wheels[i] = numbers.from(0, wheels.length == 6 ? 4 : 6);
            wheels[i + 1] = numbers.from(1, 6);
        }
        return new Model(wheels);
    }

    private static void compare(Model m, WheelStore x, int t, int b, int[] c, int d) {
        String what = t + ", " + b + ", " + c[0] + ", " + c[1] + ", " + c[2] + " with " + m.room[0] + "/" + m.rate[0]
            + " " + m.room[1] + "/" + m.rate[1] + " " + m.room[2] + "/" + m.rate[2];
        Due.promise(16);
        if (t > 0 && d <= b) {
            m.upon(t, b, c, d);
        }
        Due.due("give upon " + d + " " + what, x.give(t, b, c[0], c[1], c[2], d), t > 0 && d <= b ? m.give : -1);
        Due.promise(15);
        Due.due("call " + what, x.call(t, b, c[0], c[1], c[2]), t > 0 ? m.call(t, b, c) : -1);
        Due.promise(14);
        Due.due("worst " + what, x.worst(t, b, c[0], c[1], c[2]), m.worst(t, b, c));
    }

    private static void everyState() {
        Model m = new Model(3, 2, 2, 1);
        WheelStore x = m.store();
        for (int t = 0; t <= 8; t++) {
            for (int b = 0; b <= 12; b++) {
                for (int way = 0; way < 12; way++) {
                    compare(m, x, t, b, new int[] {way / 3, way % 3, 0}, (t + b + way) % 7);
                }
            }
        }
        Model three = new Model(2, 1, 1, 2, 2, 2);
        x = three.store();
        for (int t = 1; t <= 8; t++) {
            for (int b = 0; b <= 12; b++) {
                for (int way = 0; way < 18; way++) {
                    compare(three, x, t, b, new int[] {way / 6, way / 3 % 2, way % 3}, (t + b + way) % 7);
                }
            }
        }
    }

    private static void deepestGame() {
        Model m = new Model(6, 6, 6, 5, 5, 6);
        WheelStore x = m.store();
        compare(m, x, 4, 12, new int[] {6, 6, 5}, 6);
        compare(m, x, 4, 12, new int[] {0, 1, 0}, 5);
        Due.promise(14);
        // three wheels that are full have more than the 12 that can be called
        Due.due("worst of the fullest", x.worst(8, 12, 6, 6, 5), 0);
        Due.due("worst of the emptiest", x.worst(1, 12, 0, 0, 0), 6);
        // the memo is of these WHEELS alone
        x.undo();
        Model two = new Model(6, 6, 6, 5);
        compare(two, x, 4, 12, new int[] {6, 6, 0}, 6);
        x.wheel(1, 1);
        compare(new Model(6, 6, 6, 5, 1, 1), x, 3, 12, new int[] {6, 6, 1}, 6);
        x.undo();
        compare(two, x, 3, 12, new int[] {6, 3, 0}, 4);
        x.undo();
        x.undo();
        compare(new Model(), x, 3, 12, new int[] {0, 0, 0}, 4);
        x.redo();
        compare(new Model(6, 6), x, 3, 12, new int[] {5, 0, 0}, 4);
    }

    /** The same object with other WHEELS, one after another: nothing of the ones ahead may be left. */
    private static void eachOfItsOwnWheels() {
        WheelStore x = new WheelStore();
        int[][] wheels = {{2, 1}, {2, 2}, {3, 2}, {2, 1, 2, 1}, {2, 2, 2, 1}, {2, 1, 2, 2}, {2, 1, 3, 1}, {2, 1, 2, 1, 1, 1},
            {2, 1, 2, 1, 2, 1}, {2, 1, 2, 1, 2, 2}, {2, 1}, {1, 2}, {4, 1}, {1, 4}, {}, {2, 2}, {6, 6, 1, 1}, {1, 1, 6, 6}, {5, 1},
            {2, 1, 3, 1}, {2, 2, 2, 1}, {5, 6}, {6, 1}, {2, 1, 6, 3}, {2, 2, 0, 3}};
        for (int[] row : wheels) {
            for (int i = 0; i < row.length; i += 2) {
                x.wheel(row[i], row[i + 1]);
            }
            Model m = new Model(row);
            Due.promise(14);
            for (int t = 1; t <= 4; t++) {
                for (int b = 1; b <= 12; b += 2) {
                    for (int way = 0; way < 343; way++) {
                        int[] c = {way / 49, way / 7 % 7, way % 7};
                        boolean can = c[0] <= m.room[0] && c[1] <= m.room[1] && c[2] <= m.room[2];
                        Due.due("worst", x.worst(t, b, c[0], c[1], c[2]), can ? m.worst(t, b, c) : -1);
                    }
                }
            }
            for (int i = 0; i < row.length; i += 2) {
                x.undo();
            }
        }
    }

    private static void wheelsOfAPlayToldAgain() {
        Due.promise(19);
        WheelStore x = new WheelStore();
        x.wheel(2, 1);
        x.begin(3, 4, 1, 0, 0);
        x.move(0, 0);
        x.undo();
        x.undo();
        x.undo();
        Due.due("worst without WHEELS", x.worst(1, 1, 0, 0, 0), 1);
        x.redo();
        x.redo();
        x.redo();
        Due.due("the charge is one more", x.play(4), 2);
        x.undo();
        x.undo();
        x.undo();
        Due.due("worst without WHEELS", x.worst(1, 1, 0, 0, 0), 1);
        x.redo();
        x.redo();
        x.redo();
        Due.promise(20);
        Due.due("blame of the call", x.blame(0, 0), 0);
        Due.due("blame of the give", x.blame(0, 1), 0);
        Due.promise(18);
        x.undo();
        x.undo();
        x.undo();
        x.worst(1, 1, 0, 0, 0);
        x.redo();
        x.redo();
        x.redo();
        Due.due("move", x.move(1, 100), true);
    }

    private static void playMoves() {
        Due.Numbers numbers = new Due.Numbers(18);
        for (int run = 0; run < 150; run++) {
            Model m = made(numbers);
            WheelStore x = m.store();
            int t = numbers.from(0, 6);
            int b = numbers.from(0, 12);
            int[] c = new int[3];
            for (int i = 0; i < 3; i++) {
                c[i] = numbers.from(0, m.room[i]);
            }
            Due.promise(17);
            Due.due("begin", x.begin(t, b, c[0], c[1], c[2]), true);
            int lost = 0;
            int moves = 0;
            state(x, moves, lost, t, b, c);
            int[][] blames = new int[8][];
            for (int turn = 0; turn < 14; turn++) {
                int d = numbers.from(-1, 7);
                int code = turn % 5 == 4 ? numbers.from(-1, 1100) : 100 * numbers.from(0, 3) + 10 * numbers.from(0, 2) + numbers.from(0, 2);
                int[] g = {code / 100, code / 10 % 10, code % 10};
                boolean can = t > 0 && d >= 0 && d <= 6 && d <= b && code >= 0 && code <= 999 && m.can(c, g, d);
                Due.promise(18);
                Due.due("move " + d + ", " + code, x.move(d, code), can);
                if (can) {
                    int ahead = m.worst(t, b, c);
                    int least = m.upon(t, b, c, d);
                    int now = d - g[0] - g[1] - g[2];
                    c = m.behind(c, g);
                    t--;
                    b -= d;
                    lost += now;
                    Due.promise(20);
                    Due.due("blame of the call", x.blame(moves, 0), ahead - least);
                    Due.due("blame of the give", x.blame(moves, 1), now + m.worst(t, b, c) - least);
                    blames[moves] = new int[] {ahead - least, now + m.worst(t, b, c) - least};
                    moves++;
                }
                for (int asked = 0; asked < 4 && moves > 0; asked++) {
                    int n = numbers.below(moves);
                    int who = numbers.below(2);
                    Due.promise(20);
                    Due.due("blame of a MOVE ahead", x.blame(n, who), blames[n][who]);
                }
                Due.promise(20);
                Due.due("blame of none", x.blame(moves, 0), -1);
                state(x, moves, lost, t, b, c);
            }
        }
    }

    private static void state(WheelStore x, int moves, int lost, int t, int b, int[] c) {
        Due.promise(19);
        int[] due = {moves, lost, t, b, c[0], c[1], c[2]};
        for (int what = 0; what < 7; what++) {
            Due.due("play " + what, x.play(what), due[what]);
        }
        for (int what : new int[] {-1, 7, Integer.MIN_VALUE, Integer.MAX_VALUE}) {
            Due.due("play " + what, x.play(what), -1);
        }
    }

    private static void wrongMoves() {
        Due.promise(18);
        WheelStore x = new WheelStore();
        Due.due("move without a PLAY", x.move(0, 0), false);
        x.wheel(6, 3);
        x.wheel(2, 6);
        x.begin(2, 9, 5, 2, 0);
        int digest = x.digest();
        int min = Integer.MIN_VALUE;
        int max = Integer.MAX_VALUE;
        int[][] wrong = {{6, 400}, {6, 30}, {6, 1}, {6, -1}, {6, -100}, {-1, 0}, {7, 0}, {2, 300}, {4, 320}, {0, 1}, {0, 10},
            {6, 1000}, {6, 3000}, {min, 0}, {max, 0}, {6, min}, {6, max}, {6, 300 - 10}, {6, 210 + 99}};
        for (int[] w : wrong) {
            Due.due("move " + w[0] + ", " + w[1], x.move(w[0], w[1]), false);
        }
        Due.due("as ahead", x.digest(), digest);
        Due.due("no ACT", x.about(3), 3);
        Due.promise(20);
        Due.due("blame of none", x.blame(0, 0), -1);
        Due.promise(18);
        Due.due("move", x.move(6, 320), true);
        Due.due("move of a call above what is left", x.move(4, 0), false);
        Due.due("move with more than is left in it", x.move(3, 300), false);
        Due.due("move", x.move(3, 200), true);
        Due.due("move without TICKS", x.move(0, 0), false);
        Due.promise(20);
        for (int n : new int[] {-1, 2, 8, min, max}) {
            Due.due("blame " + n, x.blame(n, 0), -1);
            Due.due("blame " + n, x.blame(n, 1), -1);
        }
        for (int who : new int[] {-1, 2, min, max}) {
            Due.due("blame 0 of " + who, x.blame(0, who), -1);
        }
    }

    private static void eightMoves() {
        Due.promise(18);
        WheelStore x = new WheelStore();
        x.wheel(1, 1);
        x.begin(8, 12, 1, 0, 0);
        for (int n = 0; n < 8; n++) {
            Due.due("move " + n, x.move(1, n % 2 == 0 ? 100 : 0), true);
        }
        Due.due("ninth move", x.move(0, 0), false);
        Due.promise(19);
        Due.due("play(0)", x.play(0), 8);
        Due.due("play(1)", x.play(1), 4);
        Due.due("play(2)", x.play(2), 0);
        Due.due("play(3)", x.play(3), 4);
        Due.due("play(4)", x.play(4), 1);
        Due.promise(20);
        Due.due("blame of the last", x.blame(7, 1), 0);
        Due.promise(17);
        Due.due("begin anew", x.begin(3, 2, 0, 0, 0), true);
        Due.due("without MOVES", x.play(0), 0);
        Due.promise(45);
        Due.due("undo", x.undo(), true);
        Due.due("the MOVES are there again", x.play(0), 8);
        Due.due("undo", x.undo(), true);
        Due.due("one less", x.play(0), 7);
    }

    private static void wheelEndsThePlay() {
        Due.promise(13);
        WheelStore x = new WheelStore();
        x.wheel(3, 3);
        x.begin(4, 5, 3, 0, 0);
        x.move(1, 100);
        int digest = x.digest();
        Due.due("wheel", x.wheel(2, 2), 1);
        for (int what = 0; what < 7; what++) {
            Due.due("play " + what, x.play(what), 0);
        }
        Due.due("blame", x.blame(0, 0), -1);
        int behind = x.digest();
        Due.promise(45);
        x.undo();
        Due.due("as ahead", x.digest(), digest);
        Due.due("play(0)", x.play(0), 1);
        Due.due("play(4)", x.play(4), 2);
        Due.due("blame", x.blame(0, 1), 0);
        Due.promise(46);
        x.redo();
        Due.due("as behind", x.digest(), behind);
        Due.due("play(0)", x.play(0), 0);
    }
}
