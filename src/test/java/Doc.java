import java.io.IOException;
import java.nio.file.Files;
import java.nio.file.Path;

/** The document: a test of an edge tells the words that it stands on, and those must stand in the document. */
final class Doc {
    private static final int PROMISES = 48;
    private static final String TEXT = read();
    private static final boolean[] told = new boolean[TEXT.length()];

    private Doc() {
    }

    private static String read() {
        try {
            return Files.readString(Path.of("../shared/DOC.md")).replaceAll("\\s+", " ");
        } catch (IOException e) {
            throw new IllegalStateException("the document can't be read: " + e);
        }
    }

    /** The answers from here on are due by these words, which stand under a promise, or ahead of them all. */
    static void says(int promise, String words) {
        Due.promise(promise);
        Due.words(words);
        int terms = TEXT.indexOf("## Promise 1:");
        int from = TEXT.indexOf("## Promise " + promise + ":");
        int to = TEXT.indexOf(" ## ", from + 1);
        int at = TEXT.indexOf(words, from);
        if (at < 0 || at + words.length() > to) {
            at = TEXT.indexOf(words);
        }
        boolean stands = from >= 0 && at >= 0 && (at + words.length() <= to && at >= from || at + words.length() <= terms);
        Due.due("the document says so", stands, true);
        for (int i = Math.max(0, at); stands && i < at + words.length(); i++) {
            told[i] = true;
        }
    }

    /** Each promise is named by a test of its edges. */
    static void allPromisesWereTold() {
        for (int promise = 1; promise <= PROMISES; promise++) {
            Due.promise(promise);
            Due.words("");
            int from = TEXT.indexOf("## Promise " + promise + ":");
            int to = TEXT.indexOf(" ## ", from + 1);
            int count = 0;
            for (int i = Math.max(0, from); i < to; i++) {
                count += told[i] ? 1 : 0;
            }
            Due.due("some of its words have a test", count > 0, true);
        }
    }

    /** The words of Terms and promises that no test of an edge tells: to be looked through by hand. */
    static void showTheRest() {
        StringBuilder rest = new StringBuilder();
        for (int i = 0; i < TEXT.length(); i++) {
            if (!told[i]) {
                rest.append(TEXT.charAt(i));
            } else if (i > 0 && !told[i - 1]) {
                rest.append("[..]");
            }
        }
        System.out.println(rest.toString().replace("## ", "\n## "));
    }
}
