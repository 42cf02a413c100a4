import java.nio.charset.StandardCharsets;
import java.util.function.IntSupplier;

/** What the tests share: texts for the tape, answers that are due, how a test ends. */
final class Check {
    static final String NO_SUCH = "NoSuchElementException";
    static final String ILLEGAL = "IllegalArgumentException";

    private static int checked = 0;
    private static int wrong = 0;

    private Check() { }

    /** An object to which the text has been told; it must be without a fault. */
    static GutterSeats told(String text) {
        GutterSeats seats = new GutterSeats();
        same("fault of " + text, tell(seats, text), 0);
        return seats;
    }

    /** Puts the text on the tape and reads it. */
    static int tell(GutterSeats seats, String text) {
        return seats.tower(put(seats, text));
    }

    /** Puts the text on the tape, behind it blanks to a whole feed, and answers its length. */
    static int put(GutterSeats seats, String text) {
        byte[] bytes = text.getBytes(StandardCharsets.ISO_8859_1);
        for (int from = 0; from < bytes.length; from += 20) {
            int[] words = words(bytes, from);
            seats.feed(words[0], words[1], words[2], words[3], words[4]);
        }
        return bytes.length;
    }

    /** The five numbers of a feed that has the bytes from a place on, and blanks behind them. */
    static int[] words(byte[] bytes, int from) {
        int[] words = new int[5];
        for (int i = 0; i < 20; i++) {
            int sign = from + i < bytes.length ? bytes[from + i] & 255 : 32;
            words[i / 4] = words[i / 4] << 8 | sign;
        }
        return words;
    }

    static void same(String what, long got, long want) {
        checked++;
        if (got != want) {
            wrong++;
            System.out.println(what + ": answered " + got + ", due is " + want);
        }
    }

    static void is(String what, boolean got) {
        same(what, got ? 1 : 0, 1);
    }

    static void fails(String what, String exception, IntSupplier call) {
        checked++;
        String got;
        try {
            got = String.valueOf(call.getAsInt());
        } catch (RuntimeException e) {
            got = e.getClass().getSimpleName();
        }
        if (!got.equals(exception)) {
            wrong++;
            System.out.println(what + ": gave " + got + ", due is " + exception);
        }
    }

    static void end() {
        System.out.println(checked + " checked, " + wrong + " wrong");
        if (wrong != 0 || checked == 0) {
            System.exit(1);
        }
    }
}
