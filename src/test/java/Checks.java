/** What the tests share: the findings by name, and the counting of wrong answers. */
final class Checks {
    static final long BEYOND = -1000000001L;
    static final long FULL = -1000000002L;
    static final long KIND = -1000000003L;
    static final long NONE = -1000000004L;
    static final long STATE = -1000000005L;
    static final long MISSING = -1000000006L;
    static final long SIZE = -1000000007L;

    private static int wrong = 0;
    private static int asked = 0;

    private Checks() {
    }

    static void due(String call, long got, long want) {
        asked++;
        if (got != want) {
            wrong++;
            if (wrong <= 50) {
                System.out.println(call + " answered " + got + ", due is " + want);
            }
        }
    }

    /** Feeds a text by fours and then byte by byte: an object has but 512 calls. */
    static TanRow fed(TanRow x, String text) {
        int fours = text.length() / 4 * 4;
        for (int i = 0; i < fours; i += 4) {
            x.feed(text.charAt(i) << 24 | text.charAt(i + 1) << 16 | text.charAt(i + 2) << 8 | text.charAt(i + 3), 4);
        }
        for (int i = fours; i < text.length(); i++) {
            x.feed(text.charAt(i), 1);
        }
        return x;
    }

    static TanRow told(String text) {
        TanRow x = fed(new TanRow(), text);
        due("esplanade of \"" + text + "\" is told", x.esplanade() > 0 ? 1 : 0, 1);
        return x;
    }

    static void end() {
        System.out.println(asked + " answers, " + wrong + " of them wrong");
        if (wrong != 0) {
            System.exit(1);
        }
    }
}
