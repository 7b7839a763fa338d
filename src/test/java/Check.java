import java.nio.charset.StandardCharsets;

/** Counts answers that are not the one that is due, and feeds texts to a tape. */
final class Check {
    private static int wrong;
    private static int looked;

    private Check() {
    }

    static void due(String call, long got, long want) {
        looked++;
        if (got != want) {
            wrong++;
            System.out.println(call + " answered " + got + ", due is " + want);
        }
    }

    static void dueText(String what, String got, String want) {
        looked++;
        if (!got.equals(want)) {
            wrong++;
            System.out.println(what + ": " + got + ", due is " + want);
        }
    }

    /** Four bytes a call, as an object is good for 512 calls. */
    static void feedText(SendTheBox x, String text) {
        byte[] bytes = text.getBytes(StandardCharsets.ISO_8859_1);
        for (int from = 0; from < bytes.length; from += 4) {
            int n = Math.min(4, bytes.length - from);
            int v = 0;
            for (int i = from; i < from + n; i++) {
                v = v << 8 | bytes[i] & 255;
            }
            x.feed(v, n);
        }
    }

    /** Feeds a text and makes a house of it. */
    static int house(SendTheBox x, String text) {
        feedText(x, text);
        return x.house();
    }

    static void finish() {
        System.out.println(looked + " answers looked at, " + wrong + " not as due");
        if (wrong != 0) {
            System.exit(1);
        }
    }
}
