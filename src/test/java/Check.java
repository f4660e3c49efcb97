/** What the tests share: counting wrong answers, and laying a text on the tape. */
final class Check {
    interface Call {
        long go();
    }

    private static int asked = 0;
    private static int wrong = 0;
    private static String test = "";

    private Check() {
    }

    /** What is wrong from now on is told with this test's name. */
    static void begin(String name) {
        test = name.isEmpty() ? "" : name + ": ";
    }

    static void due(String what, long got, long want) {
        asked++;
        if (got != want) {
            wrong++;
            System.out.println(test + what + " answered " + got + ", due is " + want);
        }
    }

    static void due(String what, boolean got, boolean want) {
        due(what, got ? 1 : 0, want ? 1 : 0);
    }

    /** The very class is due: what the machine throws by itself is a class below it. */
    static void refuses(String what, Class<? extends RuntimeException> want, Call call) {
        asked++;
        try {
            long got = call.go();
            wrong++;
            System.out.println(test + what + " answered " + got + ", due is " + want.getSimpleName());
        } catch (RuntimeException thrown) {
            if (thrown.getClass() != want) {
                wrong++;
                System.out.println(test + what + " threw " + thrown + ", due is " + want.getSimpleName());
            }
        }
    }

    static void fail(String what) {
        asked++;
        wrong++;
        System.out.println(test + what);
    }

    static boolean hasWrong() {
        return wrong > 0;
    }

    /** Puts a text behind an empty tape; its characters are bytes. */
    static void lay(SafeKnown x, String text) {
        int[] five = new int[5];
        for (int from = 0; from < text.length(); from += 20) {
            for (int i = 0; i < 5; i++) {
                five[i] = 0;
                for (int j = 0; j < 4; j++) {
                    int at = from + 4 * i + j;
                    five[i] = five[i] << 8 | (at < text.length() ? text.charAt(at) & 255 : 0);
                }
            }
            x.feed(five[0], five[1], five[2], five[3], five[4]);
        }
        due("end(" + text.length() + ") of \"" + text + "\"", x.end(text.length()), true);
    }

    static int bank(SafeKnown x, String text) {
        lay(x, text);
        int texts = x.bank();
        due("fault() of \"" + text + "\"", x.fault(), -1);
        return texts;
    }

    static int law(SafeKnown x, String text) {
        lay(x, text);
        int lines = x.law();
        due("fault() of \"" + text + "\"", x.fault(), -1);
        return lines;
    }

    static void wrongBank(SafeKnown x, String text, int at) {
        lay(x, text);
        refuses("bank() of \"" + text + "\"", IllegalArgumentException.class, x::bank);
        due("fault() of \"" + text + "\"", x.fault(), at);
    }

    static void wrongLaw(SafeKnown x, String text, int at) {
        lay(x, text);
        refuses("law() of \"" + text + "\"", IllegalArgumentException.class, x::law);
        due("fault() of \"" + text + "\"", x.fault(), at);
    }

    static void finish(String name) {
        System.out.println(name + ": " + asked + " asked, " + wrong + " wrong");
        if (wrong > 0) {
            System.exit(1);
        }
    }
}
