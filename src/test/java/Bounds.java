import java.util.ArrayList;
import java.util.List;

/**
 * What the tests of boundary cases share: the sentence of the document that is tested, and
 * refused calls, which are asked of one of two twins so that nothing but status() may differ.
 */
final class Bounds {
    static final int MIN = Integer.MIN_VALUE;
    static final int MAX = Integer.MAX_VALUE;
    private static final long NO_FINDING = -1000000000L;

    interface Scene {
        TanRow make();
    }

    interface Act {
        long ask(TanRow x);
    }

    interface ActWith {
        long ask(TanRow x, int v);
    }

    private static String sentence = "";

    private Bounds() {
    }

    /** What follows tests these words of the document. */
    static void sentence(String words) {
        sentence = words;
    }

    static void due(String what, long got, long want) {
        Checks.due("[" + sentence + "] " + what, got, want);
    }

    /** Five there (the fake on no chair), an image, something on the tape, and sheet 3 MISSING. */
    static TanRow row() {
        TanRow x = Checks.told("sun 0 5;guest brown 40 on 3;colonel brown 180 on 4;lover on 9;fake;invalid on 5");
        x.image();
        x.set(0, 4, 7);
        x.hours(3);
        x.sit(2, 8);
        x.sheet(0, 8, 3);
        x.write(0, 1, -1);
        x.write(0, 2, 7);
        x.sheet(1, 16, 5);
        x.write(1, 4, 300);
        x.sheet(2, 64, 40);
        x.write(2, 39, 1L << 40);
        Checks.fed(x, "bore on 0;fake");
        return x;
    }

    /** Eight there, of whom seven sit, and 120 bytes on the tape. */
    static TanRow full() {
        TanRow x = Checks.told("guest on 0;guest on 1;colonel on 2;bore on 4;lover on 5;fake on 7;invalid on 9;guest");
        x.image();
        x.hours(2);
        Checks.fed(x, "sun 0 1;sun 1 2;sun 2 3;sun 3 4;sun 4 5;sun 5 6;sun 6 7;sun 7 8;sun 8 9;sun 9 0;"
            + "goes 0 ;goes 1 ;goes 2 ;goes 4 ;goes 5  ");
        return x;
    }

    static TanRow made() {
        return new TanRow();
    }

    static void refused(String what, long finding, Act act) {
        refusedIn(Bounds::row, what, finding, act);
    }

    /** The finding is answered and counted once; all else is as in a twin that was not asked. */
    static void refusedIn(Scene scene, String what, long finding, Act act) {
        TanRow asked = scene.make();
        TanRow twin = scene.make();
        due(what, act.ask(asked), finding);
        for (int which = 0; which < 7; which++) {
            long more = Checks.BEYOND - finding == which ? 1 : 0;
            due(what + ": status " + which, asked.status(which), twin.status(which) + more);
        }
        due(what + ": status of all", asked.status(-1), twin.status(-1) + 1);
        same(what, asked, twin);
    }

    /** An answer that is no finding, and none counted. */
    static void taken(String what, TanRow x, Act act) {
        int before = x.status(-1);
        due(what + " is no finding", act.ask(x) > NO_FINDING ? 1 : 0, 1);
        due(what + " counts none", x.status(-1), before);
    }

    /** The call answers, but changes nothing at all. */
    static void onlyTells(String what, Scene scene, Act act) {
        TanRow asked = scene.make();
        TanRow twin = scene.make();
        taken(what, asked, act);
        same(what, asked, twin);
    }

    /** BEYOND just below, just above and far off; taken at both ends. */
    static void range(String what, int least, int most, ActWith act) {
        for (int v : new int[] {least - 1, most + 1, MIN, MAX}) {
            refused(what + " " + v, Checks.BEYOND, x -> act.ask(x, v));
        }
        for (int v : new int[] {least, most}) {
            taken(what + " " + v, row(), x -> act.ask(x, v));
        }
    }

    static void same(String what, TanRow asked, TanRow twin) {
        List<Long> seen = whole(asked);
        List<Long> want = whole(twin);
        due(what + ": how much is seen", seen.size(), want.size());
        for (int i = 0; i < Math.min(seen.size(), want.size()); i++) {
            due(what + ": sight " + i, seen.get(i), want.get(i));
        }
    }

    /** All that can be seen: what is, the sheets, what the tape does, and what was kept. */
    private static List<Long> whole(TanRow x) {
        List<Long> seen = new ArrayList<>();
        shore(x, seen);
        sheets(x, seen);
        seen.add((long) x.esplanade());
        shore(x, seen);
        seen.add((long) x.undo());
        shore(x, seen);
        return seen;
    }

    private static void shore(TanRow x, List<Long> seen) {
        for (int what = 0; what < 7; what++) {
            seen.add((long) x.now(what));
        }
        for (int what = 0; what < 4; what++) {
            seen.add((long) x.count(what));
        }
        for (int i = 0; i < 10; i++) {
            int sun = x.sun(i, 0);
            x.sun(i, sun);
            seen.add((long) sun);
            seen.add((long) x.chair(i));
        }
        for (int p = 0; p < x.count(0); p++) {
            for (int what = 0; what < 5; what++) {
                seen.add((long) x.of(p, what));
            }
        }
    }

    private static void sheets(TanRow x, List<Long> seen) {
        for (int s = 0; s < 4; s++) {
            seen.add(x.write(s, 0, Long.MAX_VALUE / 3));
            seen.add(x.write(s, 0, 0));
            long was = 0;
            for (int i = 1; i <= 40 && was > NO_FINDING; i++) {
                was = x.write(s, i, 0);
                seen.add(was);
            }
        }
    }
}
