import java.math.BigInteger;

/** Promises 2 to 12: the TAPE, the STACK and what its RINGS do. */
public final class StackTest {
    private static final String TWO = "ring heavy 2 stiff 4 holds 100 fit 10; ring heavy 1 stiff 6 holds 90;";

    public static void main(String[] args) {
        feedsAndEnds();
        textsThatHold();
        textsThatFail();
        faultStays();
        readsEachByte();
        eachLetterCounts();
        nothingIsLeftOfTheTextAhead();
        turnsAsTheModel();
        eachAnswerIsOfItsOwnSquare();
        wrongPlaces();
        singleRing();
        choosesAsTheModel();
        likeWaysOfFits();
        eachOfTheThreeCounts();
        opensWhereGapComes();
        Due.close();
    }

    private static void feedsAndEnds() {
        Due.promise(2);
        WheelStore x = new WheelStore();
        for (int i = 1; i <= 20; i++) {
            Due.due("feed " + i, x.feed(-1, 0, i, Integer.MIN_VALUE, Integer.MAX_VALUE), 20 * i);
        }
        Due.due("feed above 400", x.feed(0, 0, 0, 0, 0), -1);
        Due.due("about(5) full", x.about(5), 400);
        Due.promise(3);
        Due.due("end(401)", x.end(401), -1);
        Due.due("end(-1)", x.end(-1), -1);
        Due.due("end(min)", x.end(Integer.MIN_VALUE), -1);
        Due.due("end(max)", x.end(Integer.MAX_VALUE), -1);
        Due.due("about(5) as ahead", x.about(5), 400);
        Due.due("end(400)", x.end(400), 400);
        Due.due("end(381)", x.end(381), 381);
        Due.due("end(382)", x.end(382), -1);
        Due.promise(2);
        Due.due("feed of 20 onto 381", x.feed(1, 2, 3, 4, 5), -1);
        Due.due("about(5)", x.about(5), 381);
        Due.due("end(380)", x.end(380), 380);
        Due.due("feed of 20 onto 380", x.feed(1, 2, 3, 4, 5), 400);
        Due.promise(3);
        Due.due("end(0)", x.end(0), 0);
        Due.due("about(5) empty", x.about(5), 0);
        Due.due("end(0) of none", x.end(0), 0);
        Due.due("end(1) of none", x.end(1), -1);
        Due.due("no ACT", x.about(3), 0);
    }

    private static void textsThatHold() {
        Due.promise(4);
        holds("", 0);
        holds("  \n ", 0);
        holds("ring heavy 0 stiff 1 holds 0;", 1);
        holds("ring heavy 20 stiff 12 holds 9999 play 99;", 1);
        holds("ring\nheavy\n0020 stiff12 holds0000\n\nfit0 ;", 1);
        holds(TWO, 2);
        StringBuilder five = new StringBuilder();
        for (int stiff : new int[] {1, 2, 3, 4, 6}) {
            five.append("ring heavy 1 stiff ").append(stiff).append(" holds 5 play 7;");
        }
        holds(five.toString(), 5);
        WheelStore x = new WheelStore();
        Due.due("stack of two", Due.stack(x, TWO), 2);
        Due.due("stack of none puts them away", Due.stack(x, ""), 0);
        Due.due("about(0)", x.about(0), 0);
        Due.due("both are ACTS", x.about(3), 2);
    }

    private static void holds(String text, int rings) {
        WheelStore x = new WheelStore();
        Due.promise(4);
        Due.due("stack of '" + text + "'", Due.stack(x, text), rings);
        Due.due("its rings", x.about(0), rings);
        Due.due("the TAPE behind it", x.about(5), 0);
        Due.due("its ACT", x.about(3), 1);
        Due.promise(5);
        Due.due("its fault", x.fault(0), 0);
        Due.due("its place", x.fault(1), -1);
        Due.due("fault(2)", x.fault(2), -1);
        Due.due("fault(-1)", x.fault(-1), -1);
    }

    private static void textsThatFail() {
        Due.promise(5);
        // no TOKEN
        fails("Ring heavy 1 stiff 1 holds 1;", 1, 0);
        fails("ring heavy 1 stiff 1 holds 1,", 1, 28);
        fails("ring\theavy 1", 1, 4);
        fails("ring heavy -1 stiff 1 holds 1;", 1, 11);
        fails("ring heavy 12345 stiff", 1, 11);
        fails("ring heavy 1stiff 1 holds 1;", 1, 11);
        fails("ring heavy 99x stiff 1 holds 1;", 1, 11);
        fails("ring heavy 1X stiff 1 holds 1;", 1, 12);
        fails("ringheavy 1 stiff 1 holds 1;", 1, 0);
        fails("\n\n abcdefghi", 1, 3);
        fails("ring heavy 1 stiff 1 holds 1; \u00ff", 1, 30);
        fails("ring heavy 1 stiff 1 holds 1;\0", 1, 29);
        // one that can't stand there
        fails("r", 2, 0);
        fails("abcdefgh", 2, 0);
        fails(";", 2, 0);
        fails("7", 2, 0);
        fails("ring", 2, 4);
        fails("ring  \n", 2, 7);
        fails("ring stiff 1", 2, 5);
        fails("ring heavy ;", 2, 11);
        fails("ring heavy heavy", 2, 11);
        fails("ring heavy 1 holds 1", 2, 13);
        fails("ring heavy 1 stiff fit 1", 2, 19);
        fails("ring heavy 1 stiff 1 fit 1", 2, 21);
        fails("ring heavy 1 stiff 1 holds;", 2, 26);
        fails("ring heavy 1 stiff 1 holds 1", 2, 28);
        fails("ring heavy 1 stiff 1 holds 1 ring", 2, 29);
        fails("ring heavy 1 stiff 1 holds 1 fit ;", 2, 33);
        fails("ring heavy 1 stiff 1 holds 1 play", 2, 33);
        fails("ring heavy 1 stiff 1 holds 1 fit 1 play 1;", 2, 35);
        fails("ring heavy 1 stiff 1 holds 1 fits 1;", 2, 29);
        fails("ring heavy 1 stiff 1 holds 1 fit 1", 2, 34);
        fails("ring heavy 1 stiff 1 holds 1; ;", 2, 30);
        fails("ring heavy 1 stiff 1 holds 1;r 21", 2, 29);
        // a number that can't be
        fails("ring heavy 21", 4, 11);
        fails("ring heavy 9999 stiff 5", 4, 11);
        fails("ring heavy 20 stiff 0 holds", 4, 20);
        for (int stiff : new int[] {0, 5, 7, 8, 9, 10, 11, 13, 24, 9999}) {
            fails("ring heavy 1 stiff " + stiff + " holds 1;", 4, 19);
        }
        fails("ring heavy 1 stiff 1 holds 1 fit 100;", 4, 33);
        fails("ring heavy 1 stiff 1 holds 1 play 0100;", 4, 34);
        fails("ring heavy 1 stiff 1 holds 10000;", 1, 27);
        sixRings();
    }

    private static void sixRings() {
        String ring = "ring heavy 1 stiff 1 holds 1;";
        String five = ring + ring + ring + ring + ring;
        fails(five + ring, 2, five.length());
        fails(five + "  ring", 2, five.length() + 2);
        fails(five + " heavy", 2, five.length() + 1);
        fails(five + "#", 1, five.length());
        fails(five + "abcdefghi", 1, five.length());
        fails(five + ring + ring + "#", 2, five.length());
    }

    private static void fails(String text, int fault, int place) {
        WheelStore x = new WheelStore();
        Due.stack(x, TWO);
        int digest = x.digest();
        Due.promise(4);
        Due.due("stack of '" + text + "'", Due.stack(x, text), -1);
        Due.due("the TAPE behind it", x.about(5), 0);
        Due.due("the STACK stays", x.digest(), digest);
        Due.due("no ACT", x.about(3), 1);
        Due.promise(5);
        Due.due("fault of '" + text + "'", x.fault(0), fault);
        Due.due("place of '" + text + "'", x.fault(1), place);
        Due.due("fault(2)", x.fault(2), -1);
    }

    private static void faultStays() {
        Due.promise(5);
        WheelStore x = new WheelStore();
        Due.due("fault(0) ahead of any", x.fault(0), 0);
        Due.due("fault(1) ahead of any", x.fault(1), -1);
        Due.due("fault(2) ahead of any", x.fault(2), -1);
        Due.stack(x, TWO);
        Due.stack(x, "ring 5");
        x.undo();
        Due.due("fault(0) behind undo", x.fault(0), 2);
        Due.due("fault(1) behind undo", x.fault(1), 5);
        x.redo();
        Due.due("fault(0) behind redo", x.fault(0), 2);
        Due.stack(x, TWO);
        Due.due("fault(0) of a text that holds", x.fault(0), 0);
        Due.due("fault(1) of a text that holds", x.fault(1), -1);
        Due.promise(45);
        Due.tell(x, "ring 77");
        x.undo();
        Due.due("undo leaves the TAPE", x.about(5), 7);
    }

    /** Of each byte in each of the four places of a number: the highest comes first. */
    private static void readsEachByte() {
        Due.promise(2);
        for (int at = 0; at < 20; at++) {
            for (int sign = 0; sign < 256; sign++) {
                StringBuilder text = new StringBuilder();
                for (int i = 0; i < at; i++) {
                    text.append(i % 3 == 0 ? '\n' : ' ');
                }
                text.append((char) sign);
                boolean blank = sign == ' ' || sign == '\n';
                boolean token = sign >= 'a' && sign <= 'z' || sign >= '0' && sign <= '9' || sign == ';';
                WheelStore x = new WheelStore();
                Due.stack(x, text.toString());
                Due.due("fault(0) of byte " + sign, x.fault(0), blank ? 0 : token ? 2 : 1);
                Due.due("fault(1) of byte " + sign, x.fault(1), blank ? -1 : at);
            }
        }
    }

    private static void eachLetterCounts() {
        Due.promise(5);
        String text = "ring heavy 1 stiff 2 holds 3 fit 4;ring heavy 1 stiff 2 holds 3 play 4;";
        for (int at = 0; at < text.length(); at++) {
            char sign = text.charAt(at);
            if (sign < 'a' || sign > 'z') {
                continue;
            }
            int start = at;
            while (start > 0 && text.charAt(start - 1) >= 'a' && text.charAt(start - 1) <= 'z') {
                start--;
            }
            fails(text.substring(0, at) + (sign == 'z' ? 'a' : (char) (sign + 1)) + text.substring(at + 1), 2, start);
            fails(text.substring(0, at) + text.substring(at + 1), 2, start);
        }
    }

    private static void nothingIsLeftOfTheTextAhead() {
        Due.promise(4);
        String bare = "ring heavy 1 stiff 2 holds 3;ring heavy 1 stiff 2 holds 3;";
        WheelStore x = new WheelStore();
        Due.stack(x, bare);
        int digest = x.digest();
        Due.stack(x, "ring heavy 4 stiff 3 holds 7 fit 9;ring heavy 5 stiff 6 holds 8 play 9;ring heavy 1 stiff 1 holds 1 fit 9;");
        Due.stack(x, bare);
        Due.due("digest of a text without fits", x.digest(), digest);
        Due.due("press of a text without fits", x.press(0, 0, 0), 0);
        Due.stack(x, "ring heavy 4 stiff 3 holds 7 fit 9;ring heavy 5 stiff 6 holds 8 play 9;ring 1");
        Due.stack(x, bare);
        Due.due("digest behind a FAULT", x.digest(), digest);
        Due.promise(10);
        Due.stack(x, "ring heavy 0 stiff 1 holds 9;ring heavy 0 stiff 1 holds 9 play 5;ring heavy 0 stiff 1 holds 9;");
        Due.due("a gap behind RING 1", x.most(), -1);
        Due.stack(x, "ring heavy 0 stiff 1 holds 9;ring heavy 0 stiff 1 holds 9 play 5;");
        Due.due("no gap behind the last one", x.most(), 30);
        x.undo();
        Due.due("a gap behind RING 1", x.most(), -1);
        Due.stack(x, "ring heavy 0 stiff 1 holds 9;");
        Due.due("no gap behind the only one", x.most(), 30);
    }

    // ---- a model of the STACK: all ways in which FITS touch, each solved by elimination

    private static final class Model {
        int n;
        int[] heavy;
        int[] stiff;
        int[] holds;
        int[] fit;
        Fraction[] press;
        Fraction[] stretch;
        Fraction[] gap;

        static Model made(Due.Numbers numbers) {
            Model m = new Model();
            m.n = numbers.from(1, 5);
            m.heavy = new int[m.n];
            m.stiff = new int[m.n];
            m.holds = new int[m.n];
            m.fit = new int[m.n];
            int[] stiffs = {1, 2, 3, 4, 6, 12};
            int wide = numbers.coin() ? 99 : 9;
            for (int i = 0; i < m.n; i++) {
                m.heavy[i] = numbers.from(0, numbers.coin() ? 20 : 2);
                m.stiff[i] = stiffs[numbers.below(6)];
                m.holds[i] = numbers.from(0, numbers.coin() ? 9999 : 900);
                m.fit[i] = numbers.from(-wide / 3, wide);
            }
            return m;
        }

        String text() {
            StringBuilder text = new StringBuilder();
            for (int i = 0; i < n; i++) {
                text.append("ring heavy ").append(heavy[i]).append(" stiff ").append(stiff[i])
                    .append(" holds ").append(holds[i]);
                if (fit[i] < 0) {
                    text.append(" play ").append(-fit[i]);
                } else if (fit[i] > 0 || i % 2 == 0) {
                    text.append(" fit ").append(fit[i]);
                }
                text.append(';');
            }
            return text.toString();
        }

        void turn(int w) {
            for (int set = 0; set < 1 << (n - 1); set++) {
                if (stands(set, w)) {
                    return;
                }
            }
            throw new IllegalStateException("no answer");
        }

        /** With the PRESS of the FITS in a set to be found so that their GAP is 0: whether all is as it must be. */
        private boolean stands(int set, int w) {
            int fits = n - 1;
            Fraction[][] rows = new Fraction[fits][fits + 1];
            for (int f = 0; f < fits; f++) {
                for (int g = 0; g <= fits; g++) {
                    rows[f][g] = Fraction.of(0);
                }
                if ((set >> f & 1) == 0) {
                    rows[f][f] = Fraction.of(1);
                    continue;
                }
                Fraction inner = Fraction.of(1).by(stiff[f]);
                Fraction outer = Fraction.of(1).by(stiff[f + 1]);
                rows[f][f] = inner.plus(outer);
                if (f > 0) {
                    rows[f][f - 1] = inner.minus();
                }
                if (f + 1 < fits) {
                    rows[f][f + 1] = outer.minus();
                }
                rows[f][fits] = Fraction.of(fit[f]).plus(Fraction.of(heavy[f] * w).by(stiff[f]))
                    .plus(Fraction.of(heavy[f + 1] * w).by(stiff[f + 1]).minus());
            }
            press = solved(rows, fits);
            stretch = new Fraction[n];
            gap = new Fraction[fits];
            for (int i = 0; i < n; i++) {
                Fraction force = Fraction.of(heavy[i] * w);
                if (i > 0) {
                    force = force.plus(press[i - 1]);
                }
                if (i < fits) {
                    force = force.plus(press[i].minus());
                }
                stretch[i] = force.by(stiff[i]);
            }
            for (int f = 0; f < fits; f++) {
                gap[f] = stretch[f + 1].plus(stretch[f].minus()).plus(Fraction.of(-fit[f]));
                if (press[f].sign() < 0 || gap[f].sign() < 0 || gap[f].sign() > 0 && press[f].sign() > 0) {
                    return false;
                }
            }
            return true;
        }

        private static Fraction[] solved(Fraction[][] rows, int many) {
            for (int f = 0; f < many; f++) {
                int pivot = f;
                while (rows[pivot][f].sign() == 0) {
                    pivot++;
                }
                Fraction[] row = rows[pivot];
                rows[pivot] = rows[f];
                rows[f] = row;
                for (int g = 0; g < many; g++) {
                    if (g == f || rows[g][f].sign() == 0) {
                        continue;
                    }
                    Fraction times = rows[g][f].over(row[f]);
                    for (int k = 0; k <= many; k++) {
                        rows[g][k] = rows[g][k].plus(row[k].times(times).minus());
                    }
                }
            }
            Fraction[] press = new Fraction[many];
            for (int f = 0; f < many; f++) {
                press[f] = rows[f][many].over(rows[f][f]);
            }
            return press;
        }

        int most() {
            for (int v = 0; v <= 30; v++) {
                turn(v * v);
                for (int i = 0; i < n; i++) {
                    if (stretch[i].plus(Fraction.of(-holds[i])).sign() > 0 || i < n - 1 && gap[i].sign() > 0) {
                        return v - 1;
                    }
                }
            }
            return 30;
        }
    }

    private static final class Fraction {
        final BigInteger up;
        final BigInteger low;

        private Fraction(BigInteger up, BigInteger low) {
            BigInteger shared = up.gcd(low);
            BigInteger by = low.signum() < 0 ? shared.negate() : shared;
            this.up = up.divide(by);
            this.low = low.divide(by);
        }

        static Fraction of(long n) {
            return new Fraction(BigInteger.valueOf(n), BigInteger.ONE);
        }

        Fraction plus(Fraction other) {
            return new Fraction(up.multiply(other.low).add(other.up.multiply(low)), low.multiply(other.low));
        }

        Fraction minus() {
            return new Fraction(up.negate(), low);
        }

        Fraction times(Fraction other) {
            return new Fraction(up.multiply(other.up), low.multiply(other.low));
        }

        Fraction over(Fraction other) {
            return new Fraction(up.multiply(other.low), low.multiply(other.up));
        }

        Fraction by(int n) {
            return over(of(n));
        }

        int sign() {
            return up.signum();
        }
    }

    private static void turnsAsTheModel() {
        Due.Numbers numbers = new Due.Numbers(6);
        for (int run = 0; run < 300; run++) {
            Model m = Model.made(numbers);
            WheelStore x = new WheelStore();
            Due.promise(4);
            Due.due("stack of " + m.text(), Due.stack(x, m.text()), m.n);
            for (int turn = 0; turn < 4; turn++) {
                int w = turn == 0 ? 0 : turn == 1 ? 900 : numbers.from(0, 900);
                m.turn(w);
                String where = " of '" + m.text() + "' at " + w;
                for (int f = 0; f < m.n - 1; f++) {
                    Due.promise(6);
                    Due.due("press " + f + where, x.press(f, w, 0), m.press[f].up.longValue());
                    Due.due("press " + f + " lower" + where, x.press(f, w, 1), m.press[f].low.longValue());
                    Due.promise(7);
                    Due.due("gap " + f + where, x.gap(f, w, 0), m.gap[f].up.longValue());
                    Due.due("gap " + f + " lower" + where, x.gap(f, w, 1), m.gap[f].low.longValue());
                }
                for (int i = 0; i < m.n; i++) {
                    Due.promise(8);
                    Due.due("stretch " + i + where, x.stretch(i, w, 0), m.stretch[i].up.longValue());
                    Due.due("stretch " + i + " lower" + where, x.stretch(i, w, 1), m.stretch[i].low.longValue());
                }
            }
            Due.promise(10);
            Due.due("most of '" + m.text() + "'", x.most(), m.most());
        }
    }

    /** A question of one kind is of its own square, whatever was asked ahead of it. */
    private static void eachAnswerIsOfItsOwnSquare() {
        WheelStore x = new WheelStore();
        Due.stack(x, TWO);
        Due.promise(8);
        Due.due("stretch at 0", x.stretch(0, 0, 0), -6);
        Due.due("stretch at 100", x.stretch(0, 100, 0), 24);
        Due.promise(6);
        Due.due("press at 0", x.press(0, 0, 0), 24);
        Due.due("press at 100", x.press(0, 100, 0), 104);
        Due.promise(7);
        Due.stack(x, "ring heavy 0 stiff 1 holds 1 fit 5; ring heavy 1 stiff 1 holds 1;");
        Due.due("gap at 7", x.gap(0, 7, 0), 2);
        Due.due("gap at 9", x.gap(0, 9, 0), 4);
        Due.promise(8);
        Due.due("stretch at 0 behind it", x.stretch(1, 0, 0), 5);
        Due.due("its lower part", x.stretch(1, 0, 1), 2);
        x.best(50, 60, 70);
        Due.due("stretch behind best", x.stretch(1, 0, 0), 5);
    }

    private static void wrongPlaces() {
        WheelStore x = new WheelStore();
        Due.stack(x, TWO);
        int min = Integer.MIN_VALUE;
        int max = Integer.MAX_VALUE;
        int[][] wrong = {{-1, 0, 0}, {2, 0, 0}, {0, -1, 0}, {0, 901, 0}, {0, 0, -1}, {0, 0, 2},
            {min, 0, 0}, {max, 0, 0}, {0, min, 0}, {0, max, 0}, {0, 0, min}, {0, 0, max}};
        for (int[] a : wrong) {
            Due.promise(6);
            Due.due("press of none", x.press(a[0], a[1], a[2]), -1);
            Due.promise(7);
            Due.due("gap of none", x.gap(a[0], a[1], a[2]), -1);
            Due.promise(8);
            Due.due("stretch of none", x.stretch(a[0], a[1], a[2]), -1000000000000L);
        }
        Due.promise(6);
        Due.due("press of the last ring", x.press(1, 0, 0), -1);
        Due.promise(7);
        Due.due("gap of the last ring", x.gap(1, 0, 0), -1);
        Due.promise(8);
        Due.due("stretch of the last ring", x.stretch(1, 900, 1) > 0, true);
        Due.promise(9);
        for (int fit : new int[] {-1, 1, 2, 4, 5, min, max}) {
            Due.due("opens " + fit, x.opens(fit), -1);
        }
        Due.promise(11);
        for (int fit : new int[] {100, -100, min, max}) {
            Due.due("best of " + fit, x.best(fit, 0, 0), -2);
            Due.due("best of " + fit, x.best(0, fit, 0), -2);
            Due.due("best of " + fit, x.best(0, 0, fit), -2);
            Due.promise(12);
            Due.due("chosen of " + fit, x.chosen(fit, 0, 0, 0), -1);
            Due.due("chosen of " + fit, x.chosen(0, fit, 0, 0), -1);
            Due.due("chosen of " + fit, x.chosen(0, 0, fit, 0), -1);
            Due.due("chosen at " + fit, x.chosen(0, 10, 20, fit), -1);
        }
        Due.due("chosen at 1 of one FIT", x.chosen(0, 10, 20, 1), -1);
        Due.due("chosen at -1", x.chosen(0, 10, 20, -1), -1);
    }

    private static void singleRing() {
        WheelStore x = new WheelStore();
        Due.stack(x, "ring heavy 1 stiff 12 holds 2 fit 5;");
        Due.promise(8);
        Due.due("stretch", x.stretch(0, 10, 0), 5);
        Due.due("stretch lower", x.stretch(0, 10, 1), 6);
        Due.due("stretch 0", x.stretch(0, 0, 1), 1);
        Due.promise(6);
        Due.due("press of one ring", x.press(0, 1, 0), -1);
        Due.promise(9);
        Due.due("opens of one ring", x.opens(0), -1);
        Due.promise(10);
        // 24 / 12 is what it holds, 25 / 12 is above
        Due.due("most", x.most(), 4);
        Due.promise(11);
        Due.due("best of one ring", x.best(1, 2, 3), 4);
        Due.promise(12);
        Due.due("chosen of one ring", x.chosen(1, 2, 3, 0), -1);
        Due.stack(x, "ring heavy 0 stiff 1 holds 0;");
        Due.promise(10);
        Due.due("most of a ring without weight", x.most(), 30);
    }

    private static void choosesAsTheModel() {
        Due.Numbers numbers = new Due.Numbers(11);
        for (int run = 0; run < 60; run++) {
            Model m = Model.made(numbers);
            m.n = Math.min(m.n, 4);
            WheelStore x = new WheelStore();
            Due.stack(x, m.text());
            int wide = numbers.coin() ? 3 : 99;
            int[] three = {numbers.from(-wide / 9, wide), numbers.from(0, wide), numbers.from(0, wide)};
            int ways = 1;
            for (int f = 0; f < m.n - 1; f++) {
                ways *= 3;
            }
            int most = -1;
            int least = 0;
            int found = 0;
            for (int way = 0; way < ways; way++) {
                int sum = 0;
                for (int f = 0, rest = way; f < m.n - 1; f++, rest /= 3) {
                    m.fit[f] = three[digit(way, f, m.n)];
                    sum += m.fit[f];
                }
                int speed = m.most();
                if (speed > most || speed == most && speed >= 0 && sum < least) {
                    most = speed;
                    least = sum;
                    found = way;
                }
            }
            String what = three[0] + ", " + three[1] + ", " + three[2] + " for '" + m.text() + "'";
            Due.promise(12);
            for (int f = 0; f < m.n - 1; f++) {
                Due.due("chosen " + what, x.chosen(three[0], three[1], three[2], f), most < 0 ? -1 : digit(found, f, m.n));
            }
            Due.promise(11);
            Due.due("best " + what, x.best(three[0], three[1], three[2]), most);
            Due.promise(12);
            Due.due("chosen of none", x.chosen(three[0], three[1], three[2], m.n - 1), -1);
        }
    }

    private static int digit(int way, int f, int n) {
        int rest = way;
        for (int i = n - 2; i > f; i--) {
            rest /= 3;
        }
        return rest % 3;
    }

    private static void likeWaysOfFits() {
        WheelStore x = new WheelStore();
        // nothing moves: each fit of 0 or more holds at each speed, so the least sum is chosen
        Due.stack(x, "ring heavy 0 stiff 1 holds 9999; ring heavy 0 stiff 1 holds 9999; ring heavy 0 stiff 1 holds 9999;");
        Due.promise(11);
        Due.due("best", x.best(9, 3, 7), 30);
        Due.due("best of plays", x.best(-9, -3, -7), -1);
        Due.due("best at the edges", x.best(-99, 0, 99), 30);
        Due.promise(12);
        Due.due("chosen 0", x.chosen(9, 3, 7, 0), 1);
        Due.due("chosen 1", x.chosen(9, 3, 7, 1), 1);
        Due.due("chosen of like ones", x.chosen(9, 3, 3, 1), 1);
        Due.due("chosen of all the same", x.chosen(9, 9, 9, 1), 0);
        Due.due("chosen of plays", x.chosen(-9, -3, -7, 0), -1);
        Due.promise(10);
        Due.due("most by play", x.most(), 30);
        Due.promise(11);
        // the fits of the STACK itself are as they were
        Due.stack(x, "ring heavy 0 stiff 1 holds 5 play 3; ring heavy 0 stiff 1 holds 5;");
        Due.due("best", x.best(0, 1, 2), 30);
        Due.promise(10);
        Due.due("most behind best", x.most(), -1);
        Due.promise(7);
        Due.due("gap behind best", x.gap(0, 0, 0), 3);
        Due.promise(11);
        x.undo();
        Due.due("best behind undo", x.best(0, 1, 2), 30);
        Due.promise(12);
        Due.due("chosen 1 behind undo", x.chosen(0, 1, 2, 1), 0);
        x.undo();
        Due.promise(11);
        Due.due("best without rings", x.best(0, 1, 2), -1);
        Due.due("a bad fit without rings", x.best(0, 100, 2), -2);
        Due.promise(12);
        Due.due("chosen without rings", x.chosen(0, 1, 2, 0), -1);
        Due.promise(10);
        Due.due("most without rings", x.most(), -1);
    }

    /** Asked anew with one of them another. */
    private static void eachOfTheThreeCounts() {
        WheelStore x = new WheelStore();
        Due.stack(x, "ring heavy 0 stiff 1 holds 99; ring heavy 0 stiff 1 holds 99;");
        int[][] three = {{1, 2, 3}, {4, 2, 3}, {4, 5, 3}, {4, 5, 6}, {1, 5, 6}, {1, 0, 6}, {1, 0, -1}, {-2, 0, -1}, {1, 1, 0},
            {-5, -6, -7}, {-5, -6, 3}, {-5, -6, -7}, {-5, 3, -7}, {-5, -6, -7}, {3, -6, -7}};
        int[] due = {0, 1, 2, 0, 0, 1, 1, 1, 2, -1, 2, -1, 1, -1, 0};
        for (int n = 0; n < three.length; n++) {
            String what = three[n][0] + ", " + three[n][1] + ", " + three[n][2];
            Due.promise(12);
            Due.due("chosen " + what, x.chosen(three[n][0], three[n][1], three[n][2], 0), due[n]);
            Due.promise(11);
            Due.due("best " + what, x.best(three[n][0], three[n][1], three[n][2]), due[n] < 0 ? -1 : 30);
        }
    }

    private static void opensWhereGapComes() {
        Due.promise(9);
        Due.Numbers numbers = new Due.Numbers(9);
        for (int run = 0; run < 60; run++) {
            Model m = Model.made(numbers);
            WheelStore x = new WheelStore();
            Due.stack(x, m.text());
            int[] least = new int[m.n];
            java.util.Arrays.fill(least, -1);
            for (int w = 0; w <= 900; w++) {
                m.turn(w);
                for (int f = 0; f < m.n - 1; f++) {
                    if (least[f] < 0 && m.gap[f].sign() > 0) {
                        least[f] = w;
                    }
                }
            }
            for (int f = 0; f < m.n; f++) {
                Due.due("opens " + f + " of '" + m.text() + "'", x.opens(f), least[f]);
            }
            x.undo();
            Due.due("opens behind undo", x.opens(0), -1);
        }
        // it opens at 900, just within, and not up to there
        openEdge("ring heavy 3 stiff 4 holds 9 fit 32;ring heavy 3 stiff 1 holds 9 fit 59;"
            + "ring heavy 8 stiff 12 holds 9;", 900);
        openEdge("ring heavy 0 stiff 1 holds 1 fit 74; ring heavy 1 stiff 12 holds 1;", 889);
        openEdge("ring heavy 0 stiff 1 holds 1 fit 74; ring heavy 0 stiff 12 holds 1;", -1);
        WheelStore x = new WheelStore();
        Due.stack(x, "ring heavy 0 stiff 1 holds 1 fit 75; ring heavy 1 stiff 12 holds 1;");
        Due.due("opens at 901", x.opens(0), -1);
    }

    private static void openEdge(String text, int w) {
        WheelStore x = new WheelStore();
        Due.stack(x, text);
        Due.due("opens of '" + text + "'", x.opens(0), w);
    }
}
