/** What the tests share: the count of wrong answers, a source of made-up numbers, and texts on the TAPE. */
final class Due {
    private static int wrong = 0;
    private static int asked = 0;
    private static int promise = 0;
    private static String words = "";

    private Due() {
    }

    /** The answers from here on are those of a promise. */
    static void promise(int number) {
        promise = number;
    }

    /** The words of the document by which the answers from here on are due. */
    static void words(String told) {
        words = told;
    }

    static void due(String call, long got, long want) {
        asked++;
        if (got != want) {
            wrong++;
            if (wrong <= 40) {
                String by = words.isEmpty() ? "" : " (" + words + ")";
                System.out.println("promise " + promise + ": " + call + " answered " + got + ", due is " + want + by);
            }
        }
    }

    static void due(String call, boolean got, boolean want) {
        due(call, got ? 1 : 0, want ? 1 : 0);
    }

    /** Ends the test: with exit code 1 if there was a wrong answer. */
    static void close() {
        System.out.println(asked + " answers, " + wrong + " wrong");
        if (wrong != 0 || asked == 0) {
            System.exit(1);
        }
    }

    /** Puts a text on the TAPE of a store whose TAPE is empty. */
    static void tell(WheelStore x, String text) {
        int[] five = new int[5];
        for (int from = 0; from < text.length(); from += 20) {
            for (int i = 0; i < 20; i++) {
                int sign = from + i < text.length() ? text.charAt(from + i) : ' ';
                five[i / 4] = five[i / 4] << 8 | sign;
            }
            x.feed(five[0], five[1], five[2], five[3], five[4]);
        }
        x.end(text.length());
    }

    static int stack(WheelStore x, String text) {
        tell(x, text);
        return x.stack();
    }

    /** Numbers that look made up, the same in each run. */
    static final class Numbers {
        private long state;

        Numbers(long seed) {
            state = seed * 2862933555777941757L + 3037000493L;
        }

        int below(int bound) {
            state = state * 6364136223846793005L + 1442695040888963407L;
            return (int) ((state >>> 33) % bound);
        }

        int from(int least, int most) {
            return least + below(most - least + 1);
        }

        int any() {
            below(2);
            return (int) (state >>> 32);
        }

        boolean coin() {
            return below(2) == 1;
        }
    }
}
