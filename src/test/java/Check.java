import java.nio.charset.StandardCharsets;

/** What the tests share: counting wrong answers, and feeding a text to a registry's tape. */
final class Check {
    private static int wrong = 0;
    private static int made = 0;

    private Check() {
    }

    static void due(String call, long got, long want) {
        made++;
        if (got != want) {
            wrong++;
            System.out.println(call + " answered " + got + ", due is " + want);
        }
    }

    static void due(String call, boolean got, boolean want) {
        due(call, got ? 1 : 0, want ? 1 : 0);
    }

    /** Ends the test with exit code 1 if an answer was wrong. */
    static void end() {
        System.out.println(made + " answers, " + wrong + " wrong");
        if (wrong != 0 || made == 0) {
            System.exit(1);
        }
    }

    /** Puts a text on the tape, with zeros behind it up to the next twenty bytes. */
    static void feed(ServantRegistry r, byte[] text) {
        int[] five = new int[5];
        for (int at = 0; at < text.length; at += 20) {
            for (int i = 0; i < 20; i++) {
                int b = at + i < text.length ? text[at + i] & 255 : 0;
                five[i / 4] = five[i / 4] << 8 | b;
            }
            r.feed(five[0], five[1], five[2], five[3], five[4]);
        }
    }

    static int rules(ServantRegistry r, String text) {
        byte[] bytes = text.getBytes(StandardCharsets.ISO_8859_1);
        feed(r, bytes);
        return r.rules(bytes.length);
    }

    /** The place of the fault in a text that is read by a new object; NONE: it has none. */
    static int faultOf(String text) {
        ServantRegistry r = new ServantRegistry();
        int answer = rules(r, text);
        int fault = r.fault();
        due("rules of '" + text + "' by its fault", answer, fault == ServantRegistry.NONE ? 0 : -1);
        return fault;
    }
}
