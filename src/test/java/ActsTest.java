import java.util.ArrayList;
import java.util.List;

/** Promises 1 and 45 to 48: a new object, ACTS that are taken back and told again, the DIGEST, and what there is about. */
public final class ActsTest {
    public static void main(String[] args) {
        newObject();
        randomRuns();
        manyActs();
        redoIsGoneWithAnAct();
        aboutEachSlot();
        digestOfEachPart();
        questionsAreNoActs();
        Due.close();
    }

    private static void newObject() {
        Due.promise(1);
        WheelStore x = new WheelStore();
        Due.due("NONE", WheelStore.NONE, -1);
        for (int what = 0; what < 6; what++) {
            Due.due("about " + what, x.about(what), 0);
        }
        Due.due("digest", x.digest(), new Model().digest());
        Due.due("undo", x.undo(), false);
        Due.due("redo", x.redo(), false);
        Due.due("most", x.most(), -1);
        Due.due("worst", x.worst(1, 1, 0, 0, 0), 1);
        WheelStore other = new WheelStore();
        other.wheel(1, 1);
        Due.due("two objects share nothing", x.about(1), 0);
    }

    // ---- a model: all there is, kept whole ahead of each ACT

    private static final class Model {
        final List<int[]> rings = new ArrayList<>();
        final List<int[]> wheels = new ArrayList<>();
        final List<int[]> holes = new ArrayList<>();
        final List<int[]> moves = new ArrayList<>();
        final List<int[]> readings = new ArrayList<>();
        final int[][] slots = new int[24][3];
        int[] store = {0, 1, 0};
        int by;
        int[] shake = {0, 0};
        int[] play = {0, 0, 0, 0, 0};
        final int[] drag = new int[31];
        int[] cracks = {8, 0, 20, 20};
        int[] costs = {0, 0, 0};
        final int[] signs = new int[5];

        Model copy() {
            Model m = new Model();
            m.rings.addAll(rings);
            m.wheels.addAll(wheels);
            m.holes.addAll(holes);
            m.moves.addAll(moves);
            m.readings.addAll(readings);
            for (int s = 0; s < 24; s++) {
                m.slots[s] = slots[s].clone();
            }
            m.store = store;
            m.by = by;
            m.shake = shake;
            m.play = play;
            System.arraycopy(drag, 0, m.drag, 0, 31);
            m.cracks = cracks;
            m.costs = costs;
            System.arraycopy(signs, 0, m.signs, 0, 5);
            return m;
        }

        int digest() {
            List<Integer> all = new ArrayList<>();
            counted(all, rings);
            for (int[] slot : slots) {
                row(all, slot);
            }
            row(all, store);
            all.add(by);
            counted(all, wheels);
            counted(all, holes);
            row(all, shake);
            row(all, play);
            counted(all, moves);
            row(all, drag);
            row(all, cracks);
            row(all, costs);
            row(all, signs);
            counted(all, readings);
            int digest = 7;
            for (int number : all) {
                digest = 31 * digest + number;
            }
            return digest;
        }

        private static void counted(List<Integer> all, List<int[]> rows) {
            all.add(rows.size());
            for (int[] row : rows) {
                row(all, row);
            }
        }

        private static void row(List<Integer> all, int[] row) {
            for (int number : row) {
                all.add(number);
            }
        }
    }

    private static void randomRuns() {
        Due.Numbers numbers = new Due.Numbers(45);
        for (int run = 0; run < 60; run++) {
            WheelStore x = new WheelStore();
            List<Model> ahead = new ArrayList<>();
            List<Model> behind = new ArrayList<>();
            Model now = new Model();
            int acts = numbers.from(1, 14);
            for (int turn = 0; turn < 200; turn++) {
                int kind = numbers.below(19);
                if (kind >= 17 || kind >= acts + 1) {
                    boolean undo = numbers.below(5) < 3;
                    List<Model> from = undo ? ahead : behind;
                    Due.promise(undo ? 45 : 46);
                    Due.due(undo ? "undo" : "redo", undo ? x.undo() : x.redo(), !from.isEmpty());
                    if (!from.isEmpty()) {
                        (undo ? behind : ahead).add(now);
                        now = from.remove(from.size() - 1);
                    }
                } else {
                    Model before = now.copy();
                    if (act(x, now, kind, numbers)) {
                        ahead.add(before);
                        behind.clear();
                    }
                }
                compare(x, now, ahead.size(), behind.size());
            }
        }
    }

    private static void compare(WheelStore x, Model now, int kept, int takenBack) {
        Due.promise(47);
        Due.due("digest", x.digest(), now.digest());
        Due.promise(48);
        Due.due("about 0", x.about(0), now.rings.size());
        Due.due("about 1", x.about(1), now.wheels.size());
        Due.due("about 2", x.about(2), now.holes.size());
        Due.due("about 3", x.about(3), Math.min(kept, 300));
        Due.due("about 4", x.about(4), takenBack);
        Due.due("about 5", x.about(5), 0);
    }

    /** One of the ACTS, told to the object and to the model; some of them can't be. */
    private static boolean act(WheelStore x, Model m, int kind, Due.Numbers n) {
        switch (kind) {
            case 0: return stack(x, m, n);
            case 1: return price(x, m, n.from(-1, 24), n.from(0, 100), n.from(0, 99));
            case 2: return store(x, m, n.from(0, 32), n.from(1, 9), n.from(0, 100));
            case 3: return misses(x, m, n.from(0, 32));
            case 4: return wheel(x, m, n.from(0, 7), n.from(1, 6));
            case 5: return hole(x, m, n.from(-99, 99), n.from(-99, 99), n.from(1, 3));
            case 6: return shake(x, m, n.from(-999, 1010), n.from(-999, 999));
            case 7: return plan(x, m, n.from(0, 24), n.from(-9, 9));
            case 8: return begin(x, m, n.from(0, 9), n.from(0, 12));
            case 9: return move(x, m, n.from(0, 6), 0);
            case 10: return drag(x, m, n.from(0, 31), n.from(0, 999));
            case 11: return cracks(x, m, n.from(0, 8), n.from(0, 3), n.from(1, 20), n.from(1, 20));
            case 12: return costs(x, m, n.from(0, 9999), n.from(0, 9999), n.from(0, 10300));
            case 13: return makes(x, m, n.from(0, 5), n.from(0, 255));
            default: return reads(x, m, n.from(0, 8), n.coin());
        }
    }

    private static boolean stack(WheelStore x, Model m, Due.Numbers n) {
        Due.promise(4);
        int rings = n.from(0, 6);
        StringBuilder text = new StringBuilder();
        List<int[]> rows = new ArrayList<>();
        int[] stiffs = {1, 2, 3, 4, 6, 12};
        for (int i = 0; i < rings; i++) {
            int[] row = {n.from(0, 20), stiffs[n.below(6)], n.from(0, 9999), n.from(-99, 99)};
            rows.add(row);
            text.append("ring heavy ").append(row[0]).append(" stiff ").append(row[1]).append(" holds ").append(row[2]);
            text.append(row[3] < 0 ? " play " : " fit ").append(Math.abs(row[3])).append(";");
        }
        Due.due("stack", Due.stack(x, text.toString()), rings > 5 ? -1 : rings);
        if (rings > 5) {
            return false;
        }
        m.rings.clear();
        m.rings.addAll(rows);
        return true;
    }

    private static boolean price(WheelStore x, Model m, int slot, int buy, int sell) {
        boolean can = slot >= 0 && slot < 24 && buy < 100;
        Due.promise(21);
        Due.due("price", x.price(slot, buy, sell), can);
        if (can) {
            m.slots[slot][0] = buy;
            m.slots[slot][1] = sell;
        }
        return can;
    }

    private static boolean plan(WheelStore x, Model m, int slot, int q) {
        boolean can = slot < 24;
        Due.promise(27);
        Due.due("plan", x.plan(slot, q), can);
        if (can) {
            m.slots[slot][2] = q;
        }
        return can;
    }

    private static boolean store(WheelStore x, Model m, int room, int rate, int leak) {
        boolean can = room <= 30;
        Due.promise(22);
        Due.due("store", x.store(room, rate, leak), can);
        if (can) {
            m.store = new int[] {room, rate, leak};
        }
        return can;
    }

    private static boolean misses(WheelStore x, Model m, int by) {
        boolean can = by <= 30;
        Due.promise(23);
        Due.due("misses", x.misses(by), can);
        if (can) {
            m.by = by;
        }
        return can;
    }

    private static boolean wheel(WheelStore x, Model m, int room, int rate) {
        boolean can = room < 7 && m.wheels.size() < 3;
        Due.promise(13);
        Due.due("wheel", x.wheel(room, rate), can ? m.wheels.size() : -1);
        if (can) {
            m.wheels.add(new int[] {room, rate});
            m.moves.clear();
            m.play = new int[5];
        }
        return can;
    }

    private static boolean hole(WheelStore x, Model m, int hx, int hy, int most) {
        boolean can = most < 3 && m.holes.size() < 9;
        Due.promise(29);
        Due.due("hole", x.hole(hx, hy, most), can ? m.holes.size() : -1);
        if (can) {
            m.holes.add(new int[] {hx, hy, most});
        }
        return can;
    }

    private static boolean shake(WheelStore x, Model m, int sx, int sy) {
        boolean can = sx < 1000;
        Due.promise(30);
        Due.due("shake", x.shake(sx, sy), can);
        if (can) {
            m.shake = new int[] {sx, sy};
        }
        return can;
    }

    private static boolean begin(WheelStore x, Model m, int ticks, int calls) {
        int[] play = {ticks, calls, 0, 0, 0};
        for (int i = 0; i < m.wheels.size(); i++) {
            play[2 + i] = m.wheels.get(i)[0];
        }
        boolean can = ticks < 9;
        Due.promise(17);
        Due.due("begin", x.begin(play[0], play[1], play[2], play[3], play[4]), can);
        if (can) {
            m.play = play;
            m.moves.clear();
        }
        return can;
    }

    private static boolean move(WheelStore x, Model m, int call, int give) {
        int left = m.play[1];
        for (int[] move : m.moves) {
            left -= move[0];
        }
        boolean can = m.moves.size() < m.play[0] && call <= left;
        Due.promise(18);
        Due.due("move", x.move(call, give), can);
        if (can) {
            m.moves.add(new int[] {call, give});
        }
        return can;
    }

    private static boolean drag(WheelStore x, Model m, int speed, int loss) {
        boolean can = speed <= 30;
        Due.promise(33);
        Due.due("drag", x.drag(speed, loss), can);
        if (can) {
            m.drag[speed] = loss;
        }
        return can;
    }

    private static boolean cracks(WheelStore x, Model m, int grow0, int grow1, int breaks, int seen) {
        boolean can = grow0 + grow1 <= 8;
        Due.promise(35);
        Due.due("cracks", x.cracks(grow0, grow1, breaks, seen), can);
        if (can) {
            m.cracks = new int[] {grow0, grow1, breaks, seen};
        }
        return can;
    }

    private static boolean costs(WheelStore x, Model m, int look, int ring, int burst) {
        boolean can = burst < 10000;
        Due.promise(36);
        Due.due("costs", x.costs(look, ring, burst), can);
        if (can) {
            m.costs = new int[] {look, ring, burst};
        }
        return can;
    }

    private static boolean makes(WheelStore x, Model m, int fault, int signs) {
        boolean can = fault < 5;
        Due.promise(39);
        Due.due("makes", x.makes(fault, signs), can);
        if (can) {
            m.signs[fault] = signs;
        }
        return can;
    }

    private static boolean reads(WheelStore x, Model m, int sign, boolean seen) {
        boolean can = sign < 8 && m.readings.size() < 12;
        Due.promise(40);
        Due.due("reads", x.reads(sign, seen), can ? m.readings.size() : -1);
        if (can) {
            m.readings.add(new int[] {sign, seen ? 1 : 0});
        }
        return can;
    }

    /** Of the 301st on the first is kept no more, and stays done. */
    private static void manyActs() {
        WheelStore x = new WheelStore();
        int[] digests = new int[513];
        Due.promise(48);
        for (int n = 0; n < 310; n++) {
            digests[n] = x.digest();
            Due.due("plan " + n, n % 2 == 0 ? x.plan(n % 24, n % 19 - 9) : x.shake(n, -n), true);
            Due.due("about(3)", x.about(3), Math.min(n + 1, 300));
        }
        digests[310] = x.digest();
        for (int n = 309; n >= 10; n--) {
            Due.promise(45);
            Due.due("undo " + n, x.undo(), true);
            Due.due("digest " + n, x.digest(), digests[n]);
            Due.promise(48);
            Due.due("about(3)", x.about(3), n - 10);
            Due.due("about(4)", x.about(4), 310 - n);
        }
        Due.promise(45);
        Due.due("undo of what is kept no more", x.undo(), false);
        Due.due("it stays done", x.digest(), digests[10]);
        for (int n = 10; n < 310; n++) {
            Due.promise(46);
            Due.due("redo " + n, x.redo(), true);
            Due.due("digest " + n, x.digest(), digests[n + 1]);
        }
        Due.due("redo of none", x.redo(), false);
        Due.promise(48);
        Due.due("about(3)", x.about(3), 300);
        Due.due("about(4)", x.about(4), 0);
        x.misses(3);
        Due.due("about(3)", x.about(3), 300);
        x.undo();
        x.undo();
        x.misses(4);
        Due.due("about(3)", x.about(3), 299);
    }

    private static void redoIsGoneWithAnAct() {
        WheelStore x = new WheelStore();
        x.misses(1);
        x.misses(2);
        x.misses(3);
        x.undo();
        x.undo();
        Due.promise(46);
        x.misses(31);
        x.price(24, 0, 0);
        Due.stack(x, "ring");
        Due.due("what does nothing leaves them", x.about(4), 2);
        Due.due("redo", x.redo(), true);
        Due.due("digest tells 2", x.digest(), withMisses(2));
        x.misses(9);
        Due.due("gone with a new ACT", x.redo(), false);
        Due.due("about(4)", x.about(4), 0);
        Due.promise(45);
        Due.due("undo", x.undo(), true);
        Due.due("digest tells 2", x.digest(), withMisses(2));
        Due.due("undo", x.undo(), true);
        Due.due("digest tells 1", x.digest(), withMisses(1));
        Due.due("undo", x.undo(), true);
        Due.due("undo of none", x.undo(), false);
        Due.due("digest tells 0", x.digest(), withMisses(0));
        Due.promise(46);
        Due.due("redo", x.redo(), true);
        // an ACT of one's own that changes nothing
        x.misses(1);
        Due.due("gone with an ACT that tells the same", x.redo(), false);
    }

    private static int withMisses(int by) {
        Model m = new Model();
        m.by = by;
        return m.digest();
    }

    private static void aboutEachSlot() {
        Due.promise(48);
        WheelStore x = new WheelStore();
        for (int s = 0; s < 24; s++) {
            x.price(s, s + 1, 99 - s);
            x.plan(s, s % 19 - 9);
        }
        for (int what = 6; what <= 100; what++) {
            int due = -1;
            if (what >= 10 && what < 34) {
                due = what - 10 + 1;
            } else if (what >= 40 && what < 64) {
                due = 99 - (what - 40);
            } else if (what >= 70 && what < 94) {
                due = (what - 70) % 19;
            }
            Due.due("about " + what, x.about(what), due);
        }
        for (int what : new int[] {-1, -10, Integer.MIN_VALUE, Integer.MAX_VALUE}) {
            Due.due("about " + what, x.about(what), -1);
        }
        Due.due("about 3", x.about(3), 48);
        Due.due("feed", x.feed(0, 0, 0, 0, 0), 20);
        Due.due("about 5", x.about(5), 20);
        Due.due("end", x.end(7), 7);
        Due.due("about 5", x.about(5), 7);
    }

    private static void digestOfEachPart() {
        Due.promise(47);
        WheelStore x = new WheelStore();
        Model m = new Model();
        Due.Numbers n = new Due.Numbers(47);
        for (int kind = 0; kind < 15; kind++) {
            for (int turn = 0; turn < 20; turn++) {
                act(x, m, kind, n);
                Due.promise(47);
                Due.due("digest behind ACT of kind " + kind, x.digest(), m.digest());
            }
        }
    }

    private static void questionsAreNoActs() {
        Due.promise(48);
        WheelStore x = new WheelStore();
        Due.stack(x, "ring heavy 1 stiff 1 holds 99 fit 1; ring heavy 1 stiff 1 holds 99;");
        x.wheel(3, 3);
        x.hole(1, 1, 1);
        x.undo();
        int digest = x.digest();
        x.press(0, 0, 0);
        x.gap(0, 0, 0);
        x.stretch(0, 0, 0);
        x.opens(0);
        x.most();
        x.best(1, 2, 3);
        x.chosen(1, 2, 3, 0);
        x.worst(3, 3, 1, 0, 0);
        x.call(3, 3, 1, 0, 0);
        x.give(3, 3, 1, 0, 0, 1);
        x.play(0);
        x.blame(0, 0);
        x.value(0, 0);
        x.trade(0, 0, 0);
        x.worth(0, 0);
        x.check(0, 0);
        x.off();
        x.weights(0);
        x.alone(1, 1, 0);
        x.cost(1, 1, 0);
        x.looks(3);
        x.agree(0);
        x.told(0, 0);
        x.next(0);
        x.fewest();
        x.fault(0);
        x.feed(1, 1, 1, 1, 1);
        x.end(3);
        x.about(3);
        Due.due("about(3)", x.about(3), 2);
        Due.due("about(4)", x.about(4), 1);
        Due.due("digest", x.digest(), digest);
    }
}
