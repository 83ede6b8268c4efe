/** Long runs of calls, drawn by a counter of our own, asked of TanRow and of the Model. */
public final class ModelTest {
    private static final int RUNS = 500;
    private static final int CALLS = 512;
    private static final String[] CALL = {"sun", "chair", "now", "person", "of", "set", "turn", "as", "sit", "given",
        "hours", "on", "brown", "burns", "even", "where", "change", "kind", "send", "cloud", "enough", "brownest",
        "feed", "wipe", "esplanade", "sheet", "write", "copy", "lays", "book", "read", "image", "undo", "tear",
        "count", "status"};
    // How often each is drawn: what changes things often, what is dear or empties all seldom.
    private static final int[] OFTEN = {6, 3, 4, 8, 8, 12, 8, 5, 16, 8,
        5, 3, 3, 3, 3, 1, 1, 1, 1, 1, 1, 2,
        3, 1, 2, 5, 8, 6, 3, 3, 2, 2, 2, 1,
        2, 2};
    private static final int[] WILD = {Integer.MIN_VALUE, -1000000001, -2, -1, 0, 1, 8, 9, 10, 40, 41, 60, 61, 100, 101,
        200, 201, 400, 401, 9999, 10000, Integer.MAX_VALUE};
    private static final String[] WORDS = {"guest", "colonel", "invalid", "bore", "lover", "fake", "brown", "on", "sun",
        "goes", ";", ";", ";", " ", "  ", "x", "\n", "0", "1", "2", "3", "5", "7", "9", "10", "20", "200", "201", "999",
        "1000", "4294967297"};

    private static long seed = 20261117L;

    public static void main(String[] args) {
        for (int run = 0; run < RUNS; run++) {
            run(run);
        }
        Checks.end();
    }

    private static int draw(int n) {
        seed = seed * 6364136223846793005L + 1442695040888963407L;
        return (int) ((seed >>> 33) % n);
    }

    private static void run(int run) {
        TanRow x = new TanRow();
        Model m = new Model();
        int calls = 0;
        int first = draw(9);
        for (int p = 0; p < first; p++) {
            both(x, m, run, "person", draw(6));
            both(x, m, run, "sit", p, draw(10));
            both(x, m, run, "set", p, 2, draw(201));
            both(x, m, run, "set", p, 3, draw(201));
            calls += 4;
        }
        while (calls < CALLS) {
            String call = drawCall();
            if (call.equals("esplanade")) {
                calls += feedText(x, m, run);
            }
            both(x, m, run, call, arguments(call));
            calls++;
        }
        whole(x, m, run);
    }

    private static String drawCall() {
        int all = 0;
        for (int o : OFTEN) {
            all += o;
        }
        int d = draw(all);
        int i = 0;
        while (d >= OFTEN[i]) {
            d -= OFTEN[i];
            i++;
        }
        return CALL[i];
    }

    private static int feedText(TanRow x, Model m, int run) {
        both(x, m, run, "wipe");
        String text = drawText();
        int calls = 1;
        for (int i = 0; i < text.length(); i += 4) {
            int n = Math.min(4, text.length() - i);
            long bytes = draw(1 << 30);
            for (int j = 0; j < n; j++) {
                bytes = bytes << 8 | text.charAt(i + j);
            }
            both(x, m, run, "feed", (int) bytes, n);
            calls++;
        }
        return calls;
    }

    private static String drawText() {
        StringBuilder s = new StringBuilder();
        int items = 1 + draw(4);
        for (int i = 0; i < items; i++) {
            s.append(i == 0 ? "" : draw(2) == 0 ? ";" : " ; ");
            switch (draw(6)) {
                case 0 -> s.append("sun ").append(draw(10)).append(' ').append(draw(10));
                case 1 -> s.append("goes ").append(draw(6));
                default -> {
                    s.append(Model.NAMES[draw(6)]);
                    s.append(draw(2) == 0 ? "" : " brown " + draw(201));
                    s.append(draw(2) == 0 ? "" : " on " + draw(10));
                }
            }
        }
        int spoilt = draw(3);
        for (int i = 0; i < spoilt; i++) {
            int at = draw(s.length() + 1);
            s.replace(at, Math.min(s.length(), at + draw(3)), WORDS[draw(WORDS.length)]);
        }
        return s.toString();
    }

    private static int tame(int n) {
        return draw(40) == 0 ? WILD[draw(WILD.length)] : draw(n);
    }

    private static long[] arguments(String call) {
        switch (call) {
            case "sun": return new long[] {tame(10), tame(10)};
            case "chair": return new long[] {tame(10)};
            case "now": return new long[] {tame(7)};
            case "person": return new long[] {tame(6)};
            case "of": return new long[] {tame(8), tame(9)};
            case "set": return new long[] {tame(8), 2 + tame(3), tame(201)};
            case "turn": case "as": return new long[] {tame(8), tame(6)};
            case "sit": return new long[] {tame(8), tame(11) - 1};
            case "given": return new long[] {tame(8), tame(2)};
            case "hours": return new long[] {1 + (draw(3) == 0 ? tame(100) : tame(5))};
            case "on": return new long[] {tame(8), tame(201), tame(3)};
            case "brown": return new long[] {tame(8), tame(401)};
            case "burns": case "even": return new long[] {tame(8)};
            case "where": case "change": case "kind": return new long[] {tame(8), 1 + tame(60)};
            case "send": case "cloud": return new long[] {1 + tame(60)};
            case "enough": return new long[] {tame(8), tame(8), 1 + tame(60), tame(401)};
            case "brownest": return new long[] {tame(201)};
            case "feed": return new long[] {draw(1 << 30) * 2 + draw(2), 1 + tame(4)};
            case "sheet": return new long[] {tame(4), new int[] {0, 8, 16, 64, 32, 16, 64}[draw(7)], tame(13)};
            case "write": return new long[] {tame(4), tame(12), draw(2) == 0 ? draw(12) : ((long) draw(1 << 30) << 34) + draw(1 << 30)};
            case "copy": return new long[] {tame(4), tame(6), tame(4), tame(6), tame(6)};
            case "lays": return new long[] {tame(4)};
            case "book": return new long[] {tame(4), tame(8)};
            case "read": return new long[] {tame(4), tame(8), tame(8)};
            case "count": return new long[] {tame(4)};
            case "status": return new long[] {tame(8) - 1};
            default: return new long[0];
        }
    }

    /** All that can be seen at a run's end. */
    private static void whole(TanRow x, Model m, int run) {
        for (int p = 0; p < 8; p++) {
            for (int what = 0; what < 9; what++) {
                both(x, m, run, "of", p, what);
            }
        }
        for (int c = 0; c < 10; c++) {
            both(x, m, run, "chair", c);
        }
        for (int which = -1; which < 7; which++) {
            both(x, m, run, "status", which);
        }
    }

    private static void both(TanRow x, Model m, int run, String call, long... a) {
        for (int i = 0; i < a.length; i++) {
            // TanRow is asked with ints, but for what is written.
            a[i] = call.equals("write") && i == 2 ? a[i] : (int) a[i];
        }
        Checks.due("run " + run + ": " + call + java.util.Arrays.toString(a), ask(x, call, a), m.ask(call, a));
    }

    private static long ask(TanRow x, String call, long[] l) {
        int[] a = new int[5];
        for (int i = 0; i < l.length; i++) {
            a[i] = (int) l[i];
        }
        switch (call) {
            case "sun": return x.sun(a[0], a[1]);
            case "chair": return x.chair(a[0]);
            case "now": return x.now(a[0]);
            case "person": return x.person(a[0]);
            case "of": return x.of(a[0], a[1]);
            case "set": return x.set(a[0], a[1], a[2]);
            case "turn": return x.turn(a[0], a[1]);
            case "as": return x.as(a[0], a[1]);
            case "sit": return x.sit(a[0], a[1]);
            case "given": return x.given(a[0], a[1]);
            case "hours": return x.hours(a[0]);
            case "on": return x.on(a[0], a[1], a[2]);
            case "brown": return x.brown(a[0], a[1]);
            case "burns": return x.burns(a[0]);
            case "even": return x.even(a[0]);
            case "where": return x.where(a[0], a[1]);
            case "change": return x.change(a[0], a[1]);
            case "kind": return x.kind(a[0], a[1]);
            case "send": return x.send(a[0]);
            case "cloud": return x.cloud(a[0]);
            case "enough": return x.enough(a[0], a[1], a[2], a[3]);
            case "brownest": return x.brownest(a[0]);
            case "feed": return x.feed(a[0], a[1]);
            case "wipe": return x.wipe();
            case "esplanade": return x.esplanade();
            case "sheet": return x.sheet(a[0], a[1], a[2]);
            case "write": return x.write(a[0], a[1], l[2]);
            case "copy": return x.copy(a[0], a[1], a[2], a[3], a[4]);
            case "lays": return x.lays(a[0]);
            case "book": return x.book(a[0], a[1]);
            case "read": return x.read(a[0], a[1], a[2]);
            case "image": return x.image();
            case "undo": return x.undo();
            case "tear": return x.tear();
            case "count": return x.count(a[0]);
            default: return x.status(a[0]);
        }
    }
}
