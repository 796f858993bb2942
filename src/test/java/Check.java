import java.nio.charset.StandardCharsets;
import java.util.NoSuchElementException;
import java.util.function.IntSupplier;

/** What the tests share: it counts answers that are not as due, and brings texts onto a tape. */
final class Check {
    private static int wrong = 0;
    private static int asked = 0;
    private static String sentence = "";

    private Check() {
    }

    /** Answers from here on are due by this sentence of the document, which this promise makes or rests on. */
    static void by(int promise, String words) {
        sentence = "Promise " + promise + " (" + words + "): ";
    }

    static void due(String call, long got, long want) {
        asked++;
        if (got != want) {
            wrong++;
            System.out.println(sentence + call + " answered " + got + ", due is " + want);
        }
    }

    /** A call that is refused answers so, and all else is behind it as it was ahead of it. */
    static void refused(LakeLearns x, String call, int want, IntSupplier made) {
        String before = allOf(x) + lastOf(x);
        due(call, made.getAsInt(), want);
        due(call + " changes nothing", allOf(x) + lastOf(x), before);
    }

    static void due(String call, boolean got, boolean want) {
        due(call, got ? 1 : 0, want ? 1 : 0);
    }

    /** lesson(), with -99 for its NoSuchElementException. */
    static int lesson(LakeLearns x, int l, int what) {
        try {
            return x.lesson(l, what);
        } catch (NoSuchElementException e) {
            return -99;
        }
    }

    /** The tape is these bytes alone. */
    static void tape(LakeLearns x, byte[] text) {
        x.end(0);
        byte[] padded = java.util.Arrays.copyOf(text, (text.length + 19) / 20 * 20);
        for (int i = 0; i < padded.length; i += 20) {
            x.feed(number(padded, i), number(padded, i + 4), number(padded, i + 8), number(padded, i + 12),
                number(padded, i + 16));
        }
        x.end(text.length);
    }

    private static int number(byte[] bytes, int at) {
        return (bytes[at] & 255) << 24 | (bytes[at + 1] & 255) << 16 | (bytes[at + 2] & 255) << 8 | bytes[at + 3] & 255;
    }

    static void tape(LakeLearns x, String text) {
        tape(x, text.getBytes(StandardCharsets.ISO_8859_1));
    }

    static void tape(LakeLearns x, int... bytes) {
        byte[] text = new byte[bytes.length];
        for (int i = 0; i < bytes.length; i++) {
            text[i] = (byte) bytes[i];
        }
        tape(x, text);
    }

    static int lake(LakeLearns x, String text) {
        tape(x, text);
        return x.lake();
    }

    static LakeLearns lakeOf(String text) {
        LakeLearns x = new LakeLearns();
        due("lake has a fault: " + text, lake(x, text) >= 0, true);
        return x;
    }

    static int diary(LakeLearns x, int lives, String text) {
        tape(x, text);
        return x.diary(lives);
    }

    static int sentence(LakeLearns x, String text) {
        tape(x, text);
        return x.sentence();
    }

    /** All that is so, and all of the LAKE that can be asked for, as one text. */
    static String allOf(LakeLearns x) {
        StringBuilder all = new StringBuilder();
        for (int what = 0; what < 8; what++) {
            all.append(" now ").append(x.now(what)).append(" height ").append(x.height(what));
            all.append(what < 7 ? " count " + x.count(what) : "").append(" said ").append(x.said(what));
            all.append(" dry ").append(x.dry(what)).append(" forgets ").append(x.forgets(what));
            for (int i = 0; i < 8; i++) {
                all.append(" lesson ").append(lesson(x, i, what)).append(" boat ").append(x.boat(i, what));
                all.append(" step ").append(x.step(i, what)).append(" does ").append(x.does(what, i));
            }
        }
        return all.append(" ice ").append(x.ice()).toString();
    }

    /** The tape's length, and what other calls told last. */
    static String lastOf(LakeLearns x) {
        return " tape " + x.count(7) + " fault " + x.fault() + " told " + x.told(0) + " " + x.told(1) + " " + x.told(2) + " "
            + x.told(3) + " learnt " + x.surely() + " " + x.never() + " " + x.ask() + " taught " + x.taught();
    }

    static void due(String call, String got, String want) {
        if (!got.equals(want)) {
            System.out.println(got);
            System.out.println(want);
        }
        due(call, got.equals(want), true);
    }

    /** DAYS go by till it is that one. */
    static void till(LakeLearns x, int day) {
        while (x.now(0) < day) {
            x.days(Math.min(60, day - x.now(0)));
        }
        due("it is DAY " + day, x.now(0), day);
    }

    static String blanks(int n) {
        return " ".repeat(n);
    }

    static String times(String text, int n) {
        return text.repeat(n);
    }

    /** Ends the test: exit code 1 if an answer was not as due. */
    static void close(String name) {
        System.out.println(name + ": " + asked + " answers, " + wrong + " not as due");
        if (wrong != 0 || asked == 0) {
            System.exit(1);
        }
    }
}
