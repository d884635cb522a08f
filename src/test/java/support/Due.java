import java.nio.charset.StandardCharsets;
import java.util.function.LongSupplier;

/** Counts answers that are not the due ones, tells each of them, and ends with exit code 1 if there was one. */
final class Due {
    private static int wrong = 0;
    private static int asked = 0;

    private Due() {
    }

    static void due(String what, long got, long want) {
        asked++;
        if (got != want) {
            wrong++;
            System.out.println(what + " answered " + got + ", due is " + want);
        }
    }

    /** Several answers under one name, so that a row of calls stays one line in a test. */
    static void row(String what, long[] got, long... want) {
        due(what + ": how many", got.length, want.length);
        for (int i = 0; i < Math.min(got.length, want.length); i++) {
            due(what + " [" + i + "]", got[i], want[i]);
        }
    }

    /** Each of the calls answers so. */
    static void each(String what, long want, LongSupplier... calls) {
        for (int i = 0; i < calls.length; i++) {
            due(what + " [" + i + "]", calls[i].getAsLong(), want);
        }
    }

    static long[] all(long... answers) {
        return answers;
    }

    static void finish(String test) {
        System.out.println(test + ": " + asked + " answers asked, " + wrong + " not as due");
        if (wrong != 0) {
            System.exit(1);
        }
    }

    /** Feeds a text (of signs 0 to 255) behind the TAPE, and ends it where the text ends. */
    static int lay(RerootStore x, String text) {
        byte[] bytes = text.getBytes(StandardCharsets.ISO_8859_1);
        int had = x.count(8);
        for (int at = 0; at < bytes.length; at += 20) {
            int[] n = new int[5];
            for (int i = 0; i < 20; i++) {
                int b = at + i < bytes.length ? bytes[at + i] & 255 : 0;
                n[i / 4] = n[i / 4] << 8 | b;
            }
            x.feed(n[0], n[1], n[2], n[3], n[4]);
        }
        return x.end(had + bytes.length);
    }

    static RerootStore told(String text) {
        RerootStore x = new RerootStore();
        tell(x, text);
        return x;
    }

    static int tell(RerootStore x, String text) {
        x.end(0);
        lay(x, text);
        return x.store();
    }

    /** The text's FAULT and its place, on a new object. */
    static void faulty(String text, int fault, int place) {
        RerootStore x = new RerootStore();
        due("store of: " + text, tell(x, text), -4);
        due("fault of: " + text, x.fault(0), fault);
        due("place of: " + text, x.fault(1), place);
    }
}
