/** Promises 33 and 34: DRAG, and wheels that are ALONE. */
public final class DragTest {
    private static final int MIN = Integer.MIN_VALUE;
    private static final int MAX = Integer.MAX_VALUE;

    public static void main(String[] args) {
        drags();
        aloneAsTheModel();
        longest();
        wrongQuestions();
        Due.close();
    }

    private static void drags() {
        Due.promise(33);
        WheelStore x = new WheelStore();
        int digest = x.digest();
        int[][] wrong = {{-1, 0}, {31, 0}, {0, -1}, {0, 1000}, {MIN, 0}, {MAX, 0}, {0, MIN}, {0, MAX}};
        for (int[] w : wrong) {
            Due.due("drag " + w[0] + ", " + w[1], x.drag(w[0], w[1]), false);
        }
        Due.due("as ahead", x.digest(), digest);
        Due.due("no ACT", x.about(3), 0);
        Due.due("drag", x.drag(0, 999), true);
        Due.due("drag", x.drag(30, 0), true);
        Due.due("drag", x.drag(30, 999), true);
        Due.due("ACTS", x.about(3), 3);
        Due.promise(34);
        Due.due("one tick", x.alone(1, 30, 29), 1);
        Due.due("all is lost, as it has less", x.alone(1, 30, 0), 1);
        x.drag(30, 899);
        Due.due("1 is left and not lost", x.alone(1, 30, 0), -1);
        Due.due("1 is left", x.alone(1, 30, 1), 1);
        x.drag(30, 900);
        Due.due("just all is lost", x.alone(1, 30, 0), 1);
    }

    /** TICK by TICK. */
    private static int model(int[] drag, int heavy, int from, int to) {
        int has = heavy * from * from;
        for (int ticks = 0; ticks < 200000; ticks++) {
            int speed = 0;
            while (heavy * (speed + 1) * (speed + 1) <= has) {
                speed++;
            }
            if (speed <= to) {
                return ticks;
            }
            if (drag[speed] == 0) {
                return -1;
            }
            has -= Math.min(has, drag[speed]);
        }
        return -1;
    }

    private static void aloneAsTheModel() {
        Due.promise(34);
        Due.Numbers numbers = new Due.Numbers(34);
        for (int run = 0; run < 150; run++) {
            WheelStore x = new WheelStore();
            int[] drag = new int[31];
            int high = numbers.coin() ? 999 : numbers.coin() ? 40 : 3;
            int holes = numbers.coin() ? 40 : 1000;
            for (int v = 0; v <= 30; v++) {
                drag[v] = numbers.below(holes) == 0 ? 0 : numbers.from(1, high);
                x.drag(v, drag[v]);
            }
            for (int turn = 0; turn < 20; turn++) {
                int heavy = numbers.from(1, numbers.coin() ? 99 : 3);
                int from = numbers.from(0, 30);
                int to = numbers.from(0, numbers.coin() ? 30 : from);
                Due.due("alone " + heavy + ", " + from + ", " + to, x.alone(heavy, from, to), model(drag, heavy, from, to));
            }
        }
    }

    private static void longest() {
        Due.promise(34);
        WheelStore x = new WheelStore();
        for (int v = 0; v <= 30; v++) {
            x.drag(v, 1);
        }
        Due.due("alone for long", x.alone(99, 30, 0), 99 * 900 - 98);
        Due.due("alone at rest", x.alone(99, 0, 0), 0);
        Due.due("it is there already", x.alone(99, 30, 30), 0);
        Due.due("it is below already", x.alone(99, 3, 30), 0);
        Due.due("one speed down", x.alone(99, 30, 29), 1);
        Due.promise(45);
        x.undo();
        Due.due("alone behind undo", x.alone(99, 30, 29), -1);
        Due.due("alone behind undo, below", x.alone(99, 29, 28), 1);
    }

    private static void wrongQuestions() {
        Due.promise(34);
        WheelStore x = new WheelStore();
        int[][] wrong = {{0, 0, 0}, {100, 0, 0}, {-1, 0, 0}, {1, -1, 0}, {1, 31, 0}, {1, 0, -1}, {1, 0, 31}, {1, 31, 31},
            {MIN, 0, 0}, {MAX, 0, 0}, {1, MIN, 0}, {1, MAX, 0}, {1, 0, MIN}, {1, 0, MAX}};
        for (int[] w : wrong) {
            Due.due("alone " + w[0] + ", " + w[1] + ", " + w[2], x.alone(w[0], w[1], w[2]), -1);
        }
        Due.due("alone 1, 0, 30", x.alone(1, 0, 30), 0);
        Due.due("alone without DRAG", x.alone(1, 1, 0), -1);
    }
}
