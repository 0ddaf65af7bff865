/** Promises 39 to 44: FAULTS, SIGNS and READINGS. */
public final class DiagnosisTest {
    private static final int MIN = Integer.MIN_VALUE;
    private static final int MAX = Integer.MAX_VALUE;

    public static void main(String[] args) {
        acts();
        newOne();
        tellsAsTheModel();
        likeSigns();
        wrongQuestions();
        Due.close();
    }

    private static void acts() {
        WheelStore x = new WheelStore();
        int digest = x.digest();
        Due.promise(39);
        int[][] wrong = {{-1, 0}, {5, 0}, {0, -1}, {0, 256}, {MIN, 0}, {MAX, 0}, {0, MIN}, {0, MAX}};
        for (int[] w : wrong) {
            Due.due("makes " + w[0] + ", " + w[1], x.makes(w[0], w[1]), false);
        }
        Due.promise(40);
        for (int sign : new int[] {-1, 8, MIN, MAX}) {
            Due.due("reads " + sign, x.reads(sign, true), -1);
        }
        Due.due("as ahead", x.digest(), digest);
        Due.due("no ACT", x.about(3), 0);
        Due.promise(39);
        Due.due("makes 0, 0", x.makes(0, 0), true);
        Due.due("makes 4, 255", x.makes(4, 255), true);
        Due.promise(40);
        for (int n = 0; n < 12; n++) {
            Due.due("reads " + n, x.reads(n % 8, n % 3 == 0), n);
        }
        digest = x.digest();
        Due.due("thirteenth reading", x.reads(0, true), -1);
        Due.due("wrong sign", x.reads(8, true), -1);
        Due.due("as ahead", x.digest(), digest);
        Due.due("ACTS", x.about(3), 14);
        Due.promise(45);
        x.undo();
        Due.promise(40);
        Due.due("reads behind undo", x.reads(7, true), 11);
    }

    private static void newOne() {
        WheelStore x = new WheelStore();
        for (int f = 0; f <= 12; f++) {
            Due.promise(41);
            Due.due("agree " + f, x.agree(f), 32);
            Due.promise(42);
            Due.due("told " + f + ", 0", x.told(f, 0), 0);
            Due.due("told " + f + ", 1", x.told(f, 1), 0);
            Due.promise(43);
            Due.due("next " + f, x.next(f), 0);
        }
        Due.promise(44);
        Due.due("fewest", x.fewest(), 0);
    }

    private static void tellsAsTheModel() {
        Due.Numbers numbers = new Due.Numbers(41);
        for (int run = 0; run < 200; run++) {
            WheelStore x = new WheelStore();
            int[] makes = new int[5];
            for (int fault = 0; fault < 5; fault++) {
                makes[fault] = numbers.below(5) == 0 ? 0 : numbers.from(0, 255) & (numbers.coin() ? 255 : numbers.from(0, 255));
                Due.promise(39);
                Due.due("makes", x.makes(fault, makes[fault]), true);
            }
            int readings = numbers.from(0, 12);
            int[] sign = new int[readings];
            boolean[] seen = new boolean[readings];
            for (int n = 0; n < readings; n++) {
                sign[n] = numbers.from(0, 7);
                seen[n] = numbers.coin();
                Due.promise(40);
                Due.due("reads", x.reads(sign[n], seen[n]), n);
            }
            for (int f = -1; f <= 13; f++) {
                compare(x, makes, sign, seen, f);
            }
            int fewest = 0;
            while (count(makes, sign, seen, fewest, -1, true) == 0) {
                fewest++;
            }
            Due.promise(44);
            Due.due("fewest", x.fewest(), fewest);
        }
    }

    private static int signsOf(int[] makes, int state) {
        int signs = 0;
        for (int fault = 0; fault < 5; fault++) {
            if ((state & 1 << fault) != 0) {
                signs |= makes[fault];
            }
        }
        return signs;
    }

    private static boolean agrees(int[] makes, int[] sign, boolean[] seen, int f, int state) {
        int wrong = 0;
        for (int n = 0; n < sign.length; n++) {
            boolean has = (signsOf(makes, state) & 1 << sign[n]) != 0;
            wrong += has == seen[n] ? 0 : 1;
        }
        return wrong <= f;
    }

    /** How many STATES agree and have a sign, or have it not; all that agree for a sign below 0. */
    private static int count(int[] makes, int[] sign, boolean[] seen, int f, int which, boolean having) {
        int count = 0;
        for (int state = 0; state < 32; state++) {
            boolean fits = which < 0 || (signsOf(makes, state) >> which & 1) == (having ? 1 : 0);
            count += fits && agrees(makes, sign, seen, f, state) ? 1 : 0;
        }
        return count;
    }

    private static void compare(WheelStore x, int[] makes, int[] sign, boolean[] seen, int f) {
        boolean can = f >= 0 && f <= 12;
        int all = count(makes, sign, seen, f, -1, true);
        int sure = 31;
        int barred = 31;
        for (int state = 0; state < 32; state++) {
            if (agrees(makes, sign, seen, f, state)) {
                sure &= state;
                barred &= 31 - state;
            }
        }
        int next = 0;
        int least = 99;
        for (int which = 7; which >= 0; which--) {
            int greater = Math.max(count(makes, sign, seen, f, which, true), count(makes, sign, seen, f, which, false));
            if (greater <= least) {
                least = greater;
                next = which;
            }
        }
        Due.promise(41);
        Due.due("agree " + f, x.agree(f), can ? all : -1);
        Due.promise(42);
        Due.due("told " + f + ", 0", x.told(f, 0), can && all > 0 ? sure : -1);
        Due.due("told " + f + ", 1", x.told(f, 1), can && all > 0 ? barred : -1);
        Due.promise(43);
        Due.due("next " + f, x.next(f), can && all > 0 ? next : -1);
    }

    private static void likeSigns() {
        WheelStore x = new WheelStore();
        x.makes(0, 8);
        x.makes(1, 16);
        x.makes(2, 16);
        Due.promise(43);
        Due.due("half have SIGN 3", x.next(0), 3);
        x.makes(4, 2);
        Due.due("half have SIGN 1, too", x.next(0), 1);
        x.reads(1, true);
        Due.due("all have SIGN 1", x.next(0), 3);
        Due.promise(42);
        Due.due("FAULT 4 is sure", x.told(0, 0), 16);
        x.reads(4, false);
        Due.due("FAULTS 1 and 2 are barred", x.told(0, 1), 6);
        Due.promise(44);
        x.reads(7, true);
        Due.due("a SIGN that none makes", x.fewest(), 1);
        x.reads(7, true);
        Due.due("it was seen twice", x.fewest(), 2);
        Due.promise(41);
        Due.due("agree 1", x.agree(1), 0);
        Due.due("agree 2", x.agree(2), 4);
        Due.promise(42);
        Due.due("told 1", x.told(1, 0), -1);
        Due.due("told 1", x.told(1, 1), -1);
        Due.promise(43);
        Due.due("next 1", x.next(1), -1);
        WheelStore y = new WheelStore();
        for (int n = 0; n < 12; n++) {
            y.reads(n % 8, true);
        }
        Due.promise(44);
        Due.due("all READINGS are FALSE", y.fewest(), 12);
        Due.promise(41);
        Due.due("agree 12", y.agree(12), 32);
        Due.due("agree 11", y.agree(11), 0);
    }

    private static void wrongQuestions() {
        WheelStore x = new WheelStore();
        for (int f : new int[] {-1, 13, MIN, MAX}) {
            Due.promise(41);
            Due.due("agree " + f, x.agree(f), -1);
            Due.promise(42);
            Due.due("told " + f, x.told(f, 0), -1);
            Due.due("told what " + f, x.told(0, f), -1);
            Due.promise(43);
            Due.due("next " + f, x.next(f), -1);
        }
        Due.promise(42);
        Due.due("told 0, 2", x.told(0, 2), -1);
    }
}
