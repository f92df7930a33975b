import java.io.IOException;
import java.nio.file.Files;
import java.nio.file.Path;
import java.util.function.ToIntFunction;

/** What the tests by hand share: telling texts, asking for answers that are due, and the sentence that is meant. */
abstract class Asked {
    static final int NONE = PanelCopies.NONE;
    static final int LEAST = Integer.MIN_VALUE;
    static final int MOST = Integer.MAX_VALUE;

    /** Numbers that are beyond every range of the document, those that wrap in a shift among them. */
    private static final int[] WILD = {LEAST, LEAST + 1, -1000, -257, -256, -65, -64, -33, -32, -31, 10000, 65536,
        1 << 24, 1 << 30, MOST - 1, MOST};

    private static final String DOCUMENT = document();
    private static String sentence = "";
    private static int wrong = 0;
    private static int asked = 0;

    private static String document() {
        try {
            return oneLine(Files.readString(Path.of("../shared/DOC.md")));
        } catch (IOException e) {
            throw new IllegalStateException("../shared/DOC.md can't be read", e);
        }
    }

    private static String oneLine(String text) {
        return text.replaceAll("\\s+", " ");
    }

    /** The sentence that the answers from here on are due by; it must stand in the document to the letter. */
    static void says(String quoted) {
        sentence = quoted;
        if (!DOCUMENT.contains(oneLine(quoted))) {
            wrong++;
            System.out.println("the document does not say: " + quoted);
        }
    }

    static void due(int promise, String call, long got, long want) {
        asked++;
        if (got != want) {
            wrong++;
            String by = sentence.isEmpty() ? "" : " (" + sentence + ")";
            System.out.println("promise " + promise + ": " + call + " answered " + got + ", due is " + want + by);
        }
    }

    static void due(int promise, String call, boolean got, boolean want) {
        due(promise, call, got ? 1 : 0, want ? 1 : 0);
    }

    static void same(int promise, String what, String got, String want) {
        due(promise, what + ": " + got + " for " + want, got.equals(want), true);
    }

    /** The same answer is due to every wild number, and to the given ones. */
    static void refused(int promise, String call, ToIntFunction<Integer> answer, int want, int... others) {
        for (int number : WILD) {
            due(promise, call + " of " + number, answer.applyAsInt(number), want);
        }
        for (int number : others) {
            due(promise, call + " of " + number, answer.applyAsInt(number), want);
        }
    }

    static void endTest() {
        System.out.println(asked + " answers asked, " + wrong + " wrong");
        if (wrong != 0 || asked == 0) {
            System.exit(1);
        }
    }

    static long bytes(String text, int from) {
        long value = 0;
        for (int i = from; i < from + 8; i++) {
            value = value << 8 | (i < text.length() ? text.charAt(i) & 255 : 0);
        }
        return value;
    }

    static int feed(PanelCopies x, String text) {
        int answer = x.count(11);
        for (int i = 0; i < text.length(); i += 24) {
            answer = x.feed(bytes(text, i), bytes(text, i + 8), bytes(text, i + 16));
        }
        return answer;
    }

    static int galleryOf(PanelCopies x, String text) {
        feed(x, text);
        return x.gallery();
    }

    static int nightsOf(PanelCopies x, String text) {
        feed(x, text);
        return x.nights();
    }

    static PanelCopies told(String text) {
        PanelCopies x = new PanelCopies();
        due(3, "gallery() of " + text, galleryOf(x, text), 0);
        return x;
    }

    /** The same text some times over, a % standing for the number of each, from 0. */
    static String times(int many, String text) {
        StringBuilder all = new StringBuilder();
        for (int i = 0; i < many; i++) {
            all.append(text.replace("%", Integer.toString(i)));
        }
        return all.toString();
    }

    /** The same line some times over, a % standing for a letter of each, from a. */
    static String named(int many, String line) {
        StringBuilder all = new StringBuilder();
        for (int i = 0; i < many; i++) {
            all.append(line.replace('%', (char) ('a' + i)));
        }
        return all.toString();
    }

    /** All that can be seen of an object, the TAPE but for its length; some 110 calls. */
    static String state(PanelCopies x) {
        StringBuilder all = new StringBuilder();
        for (int what = 0; what < 12; what++) {
            all.append(x.count(what)).append(what < 11 ? ' ' : '\n');
        }
        for (int piece = 0; piece < 8; piece++) {
            for (int what = 0; what < 5; what++) {
                all.append(x.piece(piece, what)).append(what < 4 ? ' ' : '\n');
            }
        }
        for (int thief = 0; thief < 5; thief++) {
            for (int what = 0; what < 5; what++) {
                all.append(x.thief(thief, what)).append(what < 4 ? ' ' : '\n');
            }
        }
        for (int expert = 0; expert < 4; expert++) {
            all.append(x.knows(expert, 1)).append(' ').append(x.knows(expert, 2)).append(' ');
        }
        for (int what = 0; what < 3; what++) {
            all.append(x.judged(what)).append(' ');
        }
        return all.append(x.fits()).append(' ').append(x.painters()).toString();
    }
}
