import java.util.ArrayList;
import java.util.List;

/**
 * What the tests have in common: they extend this class, tell what they speak of, and say which answers are due.
 * No object may be used for more than 512 calls, for nothing is promised behind them.
 */
abstract class Checks {
    static final int NONE = HarbourText.NONE;

    private static final List<Sentence> SENTENCES = new ArrayList<>();
    private static String about = "";
    private static int wrong = 0;

    /** Words of the document and the promise that a test of them belongs to. */
    record Sentence(int promise, String words) {
    }

    /** A call that may throw. */
    interface Call {
        int answer();
    }

    static void about(String what) {
        about = what;
    }

    /** Runs the test of a sentence; one that throws is wrong, and the next one has its turn all the same. */
    static void sentence(int promise, String words, Runnable test) {
        SENTENCES.add(new Sentence(promise, words));
        about("promise " + promise + ", \"" + words + "\"");
        try {
            test.run();
        } catch (RuntimeException e) {
            due("a call", e.toString(), "no exception");
        }
    }

    static List<Sentence> sentences() {
        return List.copyOf(SENTENCES);
    }

    static void end(String allIsWell) {
        System.out.println(wrong == 0 ? allIsWell : wrong + " answers are not as due");
        if (wrong != 0) {
            System.exit(1);
        }
    }

    static void due(String call, long got, long want) {
        due(call, String.valueOf(got), String.valueOf(want));
    }

    static void due(String call, boolean got, boolean want) {
        due(call, String.valueOf(got), String.valueOf(want));
    }

    static void due(String call, String got, String want) {
        if (!got.equals(want)) {
            wrong++;
            System.out.println(about + ": " + call + " answered " + got + ", due is " + want);
        }
    }

    /** The very class is asked for: one below it would be the machine's own. */
    static void dueThrow(String call, Class<?> want, Call made) {
        String got;
        try {
            got = String.valueOf(made.answer());
        } catch (RuntimeException e) {
            got = e.getClass().getName();
        }
        due(call, got, want.getName());
    }

    static void write(HarbourText x, String text) {
        for (int i = 0; i < text.length(); i++) {
            due("sign " + i + " of " + text, x.sign(text.charAt(i)), true);
        }
    }

    static void readInto(HarbourText x, String text, int pieces) {
        write(x, text);
        try {
            due("read of " + text, x.read(), pieces);
        } catch (IllegalStateException e) {
            due("read of " + text, "failure " + x.failure(0) + " at " + x.failure(1), pieces + " pieces");
        }
    }

    static HarbourText harbour(String text, int pieces) {
        HarbourText x = new HarbourText();
        readInto(x, text, pieces);
        return x;
    }

    static void right(String text, int pieces) {
        HarbourText x = harbour(text, pieces);
        due("failure(0) of " + text, x.failure(0), 0);
        due("failure(1) of " + text, x.failure(1), NONE);
    }

    static void failInto(HarbourText x, String text, int number, int place) {
        write(x, text);
        dueThrow("read of " + text, IllegalStateException.class, x::read);
        due("failure(0) of " + text, x.failure(0), number);
        due("failure(1) of " + text, x.failure(1), place);
    }

    static void fails(String text, int number, int place) {
        failInto(new HarbourText(), text, number, place);
    }

    /** Asks for each value of a piece, and for those that it does not have. */
    static void duePiece(HarbourText x, int i, int... want) {
        for (int what = 0; what < want.length; what++) {
            due("piece(" + i + ", " + what + ")", x.piece(i, what), want[what]);
        }
        for (int what : new int[] {want.length, want.length + 1, 6, 7, -1, Integer.MIN_VALUE, Integer.MAX_VALUE}) {
            dueThrow("piece(" + i + ", " + what + ")", IndexOutOfBoundsException.class, () -> x.piece(i, what));
        }
    }

    static String printed(HarbourText x) {
        StringBuilder text = new StringBuilder();
        int many = x.print();
        for (int i = 0; i < many; i++) {
            text.append((char) x.at(i));
        }
        return text.toString();
    }

    static String badOf(HarbourText x) {
        StringBuilder text = new StringBuilder();
        int many = x.bad();
        for (int i = 0; i < many; i++) {
            text.append(i == 0 ? "" : " ").append(x.unjoined(i));
        }
        due("unjoined(" + many + ")", x.unjoined(many), NONE);
        return text.toString();
    }

    static void dueBad(String text, int pieces, String want) {
        due("bad of " + text, badOf(harbour(text, pieces)), want);
    }

    static void dueDifference(String kept, int keptPieces, String text, int pieces, int want) {
        HarbourText x = harbour(kept, keptPieces);
        x.keep();
        readInto(x, text, pieces);
        due("compare of " + kept + " and " + text, x.compare(), want);
    }

    /** Rows of gates from name 0 on; fifty of them have 290 signs. */
    static String gates(int many) {
        StringBuilder text = new StringBuilder();
        for (int i = 0; i < many; i++) {
            text.append('G').append(i).append("=0;");
        }
        return text.toString();
    }

    /** Rows of 16 signs, from name 10 on. */
    static String channels(int many) {
        StringBuilder text = new StringBuilder();
        for (int i = 10; i < 10 + many; i++) {
            text.append('C').append(i).append("=10,11,10,10;");
        }
        return text.toString();
    }

    /** 500 signs and 32 pieces, written as they are printed. */
    static String fullText() {
        return channels(30) + "Y10=10,50;Y11=10,50;";
    }

    /** Channels and roads through all points, read so that a round from 0 or 15 takes one step at a time. */
    static HarbourText longestWay() {
        StringBuilder text = new StringBuilder();
        for (int point = 14; point >= 0; point--) {
            text.append("C" + point + "=" + point + "," + (point + 1) + ",1," + (30 - point) + ";");
        }
        for (int point = 1; point < 16; point++) {
            text.append("R" + point + "=" + point + "," + (point - 1) + ";");
        }
        return harbour(text.toString(), 30);
    }
}
