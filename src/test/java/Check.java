/** What the tests share: to tell a wrong answer, to tell a text, to end with the right exit code. */
final class Check {
    private static int wrong = 0;
    private static int asked = 0;

    private Check() {
    }

    static void due(String call, long got, long want) {
        asked++;
        if (got != want) {
            wrong++;
            System.out.println(call + " answered " + got + ", due is " + want);
        }
    }

    static void due(String call, boolean got, boolean want) {
        due(call, got ? 1L : 0L, want ? 1L : 0L);
    }

    /** Lays a text on the TAPE, which is empty. */
    static void lay(LateOrders x, String text) {
        for (int from = 0; from < text.length(); from += 20) {
            due("feed for " + text, x.feed(four(text, from), four(text, from + 4), four(text, from + 8),
                four(text, from + 12), four(text, from + 16)), from + 20);
        }
        due("end for " + text, x.end(text.length()), true);
    }

    static int four(String text, int from) {
        int v = 0;
        for (int i = from; i < from + 4; i++) {
            v = v << 8 | (i < text.length() ? text.charAt(i) & 255 : 32);
        }
        return v;
    }

    static int tell(LateOrders x, int k, String text) {
        lay(x, text);
        return x.text(k);
    }

    static void reads(LateOrders x, int k, String text, int lines) {
        due("text " + k + " " + text, tell(x, k, text), lines);
        due("fault(0) of " + text, x.fault(0), 0);
        due("fault(1) of " + text, x.fault(1), -1);
    }

    static void faulty(LateOrders x, int k, String text, int fault, int at) {
        due("text " + k + " " + text, tell(x, k, text), -1);
        due("fault(0) of " + text, x.fault(0), fault);
        due("fault(1) of " + text, x.fault(1), at);
        due("TAPE behind " + text, x.end(1), false);
    }

    static void close(String test) {
        System.out.println(test + ": " + asked + " answers, " + wrong + " not as due");
        if (wrong != 0) {
            System.exit(1);
        }
    }
}
