import java.nio.charset.StandardCharsets;

/** What the test programs share: due answers, and texts fed through the TAPE. */
final class Check {
    private static int wrong = 0;
    private static int asked = 0;
    private static String where = "";

    private Check() {
    }

    /** Names the promise that is looked at from here on. */
    static void at(String promise) {
        where = promise;
    }

    static void due(String what, long got, long want) {
        asked++;
        if (got != want) {
            wrong++;
            System.out.println(where + ": " + what + " answered " + got + ", due is " + want);
        }
    }

    static void due(String what, boolean got, boolean want) {
        due(what, got ? 1 : 0, want ? 1 : 0);
    }

    /** Puts a text on the TAPE, behind what is there. */
    static void tape(Counted x, String text) {
        byte[] bytes = text.getBytes(StandardCharsets.ISO_8859_1);
        int had = x.feed(0, 0, 0, 0, 0) - 20;
        x.end(had);
        for (int i = 0; i < bytes.length; i += 20) {
            int[] n = new int[5];
            for (int j = 0; j < 20; j++) {
                int b = i + j < bytes.length ? bytes[i + j] & 255 : 0;
                n[j / 4] = n[j / 4] << 8 | b;
            }
            if (x.feed(n[0], n[1], n[2], n[3], n[4]) < 0) {
                throw new IllegalStateException("too long for the TAPE: " + text);
            }
        }
        x.end(had + bytes.length);
    }

    static int scene(Counted x, int k, String text) {
        tape(x, text);
        return x.text(0, k);
    }

    static int law(Counted x, int k, String text) {
        tape(x, text);
        return x.text(1, k);
    }

    /** Closes a test program. */
    static void close() {
        System.out.println(asked + " answers looked at, " + wrong + " not as due");
        if (wrong != 0) {
            System.exit(1);
        }
        if (asked == 0) {
            System.out.println("nothing was looked at");
            System.exit(1);
        }
    }
}
