/** The edges that the document names for FAULTS, SIGNS and READINGS: promises 39 to 44. */
final class DiagnosisEdges {
    private static final int MIN = Integer.MIN_VALUE;
    private static final int MAX = Integer.MAX_VALUE;

    private DiagnosisEdges() {
    }

    static void run() {
        newOne();
        signsThatCanBe();
        readingsThatCanBe();
        twelveReadings();
        signsOfAState();
        noMoreThanFalse();
        allStatesOrNone();
        sureAndBarred();
        nextOfLikeOnes();
        nextOfNone();
        fewestAtItsEdges();
        falseOnesThatCantBe();
    }

    private static void newOne() {
        Doc.says(39, "FAULTS 0 .. 4 make SIGNS 0 .. 7 (as bits; none at first).");
        WheelStore x = new WheelStore();
        int digest = x.digest();
        for (int fault = 0; fault < 5; fault++) {
            Due.due("makes none", x.makes(fault, 0), true);
        }
        Due.due("as at first", x.digest(), digest);
        Doc.says(41, "How many STATES AGREE with f FALSE ones (0 .. 12)");
        Due.due("agree(0)", x.agree(0), 32);
        Due.due("agree(12)", x.agree(12), 32);
        Doc.says(42, "SURE: FAULTS of all STATES that AGREE; BARRED: those of none of them.");
        Due.due("sure", x.told(0, 0), 0);
        Due.due("barred", x.told(0, 1), 0);
        Doc.says(44, "The least f with which a STATE AGREES.");
        Due.due("fewest", x.fewest(), 0);
    }

    private static void signsThatCanBe() {
        Doc.says(39, "The SIGNS (0 .. 255) of a FAULT: true; false, doing nothing, if one can't be.");
        WheelStore x = new WheelStore();
        for (int[] m : new int[][] {{0, 0}, {0, 255}, {4, 0}, {4, 255}, {2, 128}}) {
            Due.due("makes " + m[0] + ", " + m[1], x.makes(m[0], m[1]), true);
        }
        int digest = x.digest();
        int[][] wrong = {{-1, 1}, {5, 1}, {0, -1}, {0, 256}, {MIN, 1}, {MAX, 1}, {0, MIN}, {0, MAX}};
        for (int[] w : wrong) {
            Due.due("makes " + w[0] + ", " + w[1], x.makes(w[0], w[1]), false);
        }
        Due.due("as ahead", x.digest(), digest);
        Due.due("no ACT", x.about(3), 5);
    }

    private static void readingsThatCanBe() {
        Doc.says(40, "A READING of a SIGN: its number; NONE, doing nothing, if there is no such SIGN, or there are 12.");
        WheelStore x = new WheelStore();
        Due.due("reads 0", x.reads(0, true), 0);
        Due.due("reads 7", x.reads(7, false), 1);
        Due.due("reads 7 once more", x.reads(7, false), 2);
        int digest = x.digest();
        for (int sign : new int[] {-1, 8, 9, MIN, MAX}) {
            Due.due("reads " + sign, x.reads(sign, true), -1);
            Due.due("reads " + sign, x.reads(sign, false), -1);
        }
        Due.due("as ahead", x.digest(), digest);
        Due.due("no ACT", x.about(3), 3);
        Due.due("the next number", x.reads(3, true), 3);
    }

    private static void twelveReadings() {
        Doc.says(40, "READINGS, 12 at most: a SIGN was seen, or it was not.");
        WheelStore x = new WheelStore();
        for (int n = 0; n < 12; n++) {
            Due.due("reads", x.reads(n % 8, n % 2 == 0), n);
        }
        int digest = x.digest();
        Due.due("a thirteenth", x.reads(0, true), -1);
        Due.due("a thirteenth that can't be", x.reads(8, true), -1);
        Due.due("as ahead", x.digest(), digest);
        Due.due("no ACT", x.about(3), 12);
        x.undo();
        Due.due("a twelfth once more", x.reads(0, false), 11);
    }

    private static void signsOfAState() {
        Doc.says(41, "A STATE (0 .. 31) is a set of FAULTS as bits; its SIGNS are those of all of them.");
        WheelStore x = new WheelStore();
        x.makes(0, 1);
        x.makes(4, 128);
        x.reads(0, true);
        Due.due("all with FAULT 0", x.agree(0), 16);
        x.reads(7, true);
        Due.due("all with FAULTS 0 and 4", x.agree(0), 8);
        x.makes(1, 1);
        Due.due("FAULT 0 or 1, and 4", x.agree(0), 12);
        x.reads(0, false);
        Due.due("it was seen and it was not", x.agree(0), 0);
    }

    private static void noMoreThanFalse() {
        Doc.says(41, "A STATE AGREES with f FALSE ones, if no more than f READINGS tell of their SIGN otherwise than the STATE.");
        WheelStore x = new WheelStore();
        for (int n = 0; n < 3; n++) {
            x.reads(5, true);
        }
        Due.due("3 are FALSE, none may be", x.agree(0), 0);
        Due.due("3 are FALSE, 2 may be", x.agree(2), 0);
        Due.due("3 are FALSE, 3 may be", x.agree(3), 32);
        Due.due("3 are FALSE, 4 may be", x.agree(4), 32);
        x.reads(5, false);
        Due.due("the one that was not seen is none", x.agree(3), 32);
        x.makes(2, 32);
        Due.due("1 is FALSE of those with FAULT 2", x.agree(1), 16);
        Due.due("but not none", x.agree(0), 0);
        Due.due("3 of those without", x.agree(3), 32);
    }

    private static void allStatesOrNone() {
        Doc.says(42, "SURE (what 0), BARRED (1) with f, as bits; NONE if no STATE AGREES, or one can't be.");
        WheelStore x = new WheelStore();
        x.reads(0, true);
        Due.due("sure of none", x.told(0, 0), -1);
        Due.due("barred of none", x.told(0, 1), -1);
        Due.due("sure with 1", x.told(1, 0), 0);
        Due.due("barred with 1", x.told(1, 1), 0);
        for (int what : new int[] {-1, 2, MIN, MAX}) {
            Due.due("told what " + what, x.told(1, what), -1);
        }
    }

    private static void sureAndBarred() {
        Doc.says(42, "SURE: FAULTS of all STATES that AGREE; BARRED: those of none of them.");
        WheelStore x = new WheelStore();
        for (int fault = 0; fault < 5; fault++) {
            x.makes(fault, 1 << fault);
        }
        for (int sign = 0; sign < 5; sign++) {
            x.reads(sign, true);
        }
        Due.due("one STATE", x.agree(0), 1);
        Due.due("all are sure", x.told(0, 0), 31);
        Due.due("none is barred", x.told(0, 1), 0);
        Due.due("with 1 none is sure", x.told(1, 0), 0);
        Due.due("STATE 31 alone has none FALSE", x.fewest(), 0);
        for (int sign = 0; sign < 5; sign++) {
            x.undo();
        }
        for (int sign = 0; sign < 5; sign++) {
            x.reads(sign, false);
        }
        Due.due("one STATE", x.agree(0), 1);
        Due.due("none is sure", x.told(0, 0), 0);
        Due.due("all are barred", x.told(0, 1), 31);
        Due.due("with 1 none is barred", x.told(1, 1), 0);
        Due.due("STATE 0 alone has none FALSE", x.fewest(), 0);
    }

    private static void nextOfLikeOnes() {
        Doc.says(43, "NEXT: the SIGN by which, as the STATES that AGREE have it or not, the greater part of them is least; of like ones the least.");
        WheelStore x = new WheelStore();
        Due.due("none makes any: all are like", x.next(0), 0);
        x.makes(0, 128);
        Due.due("the last SIGN parts them", x.next(0), 7);
        x.makes(1, 64);
        Due.due("6 as well as 7", x.next(0), 6);
        x.makes(2, 1);
        x.makes(3, 1);
        Due.due("24 of 32 have SIGN 0", x.next(0), 6);
        x.reads(6, true);
        Due.due("all have SIGN 6", x.next(0), 7);
        x.reads(7, false);
        Due.due("none has SIGN 7: 6 of 8 have 0", x.next(0), 0);
        // 4 have SIGN 1 and 4 have it not; SIGN 0 has 6 and 2
        x.makes(4, 2);
        Due.due("SIGN 1 parts them in halves", x.next(0), 1);
        x = new WheelStore();
        x.makes(0, 255);
        x.reads(3, true);
        Due.due("all have all", x.next(0), 0);
    }

    private static void nextOfNone() {
        Doc.says(43, "NEXT with f; NONE if no STATE AGREES, or f can't be.");
        WheelStore x = new WheelStore();
        x.makes(0, 4);
        x.reads(1, true);
        Due.due("next(0)", x.next(0), -1);
        Due.due("next(1)", x.next(1), 2);
        Due.due("next(12)", x.next(12), 2);
        Due.due("next(13)", x.next(13), -1);
        Due.due("next(-1)", x.next(-1), -1);
    }

    private static void fewestAtItsEdges() {
        Doc.says(44, "The least f with which a STATE AGREES.");
        WheelStore x = new WheelStore();
        for (int n = 0; n < 12; n++) {
            Due.due("fewest", x.fewest(), n);
            Doc.says(41, "How many STATES AGREE with f FALSE ones (0 .. 12); NONE if f can't be.");
            Due.due("agree with one less", x.agree(n - 1), n == 0 ? -1 : 0);
            Due.due("agree", x.agree(n), 32);
            Doc.says(44, "The least f with which a STATE AGREES.");
            x.reads(0, true);
        }
        Due.due("all twelve", x.fewest(), 12);
        Due.due("agree(11)", x.agree(11), 0);
        Due.due("agree(12)", x.agree(12), 32);
        x.makes(3, 1);
        Due.due("none", x.fewest(), 0);
        x = new WheelStore();
        for (int n = 0; n < 12; n++) {
            x.reads(0, n < 6);
        }
        Due.due("6 were seen, 6 were not", x.fewest(), 6);
    }

    private static void falseOnesThatCantBe() {
        WheelStore x = new WheelStore();
        for (int f : new int[] {-1, 13, MIN, MAX}) {
            Doc.says(41, "NONE if f can't be.");
            Due.due("agree(" + f + ")", x.agree(f), -1);
            Doc.says(42, "NONE if no STATE AGREES, or one can't be.");
            Due.due("told(" + f + ", 0)", x.told(f, 0), -1);
            Due.due("told(" + f + ", 1)", x.told(f, 1), -1);
            Doc.says(43, "or f can't be.");
            Due.due("next(" + f + ")", x.next(f), -1);
        }
    }
}
