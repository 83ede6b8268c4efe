/** The boundary cases of promises 27 to 37, each under the document's own words. */
public final class SheetBoundsTest {
    private static final int[] OUTSIDE_SHEETS = {-1, 4, Bounds.MIN, Bounds.MAX};

    public static void main(String[] args) {
        promise27();
        promise28();
        promise29();
        promise29Ranges();
        promise30();
        promise31();
        promise32();
        promise33();
        promise34();
        promise35();
        promise36();
        promise37();
        Checks.end();
    }

    private static void sentence(String words) {
        Bounds.sentence(words);
    }

    private static void due(String what, long got, long want) {
        Bounds.due(what, got, want);
    }

    private static void noSuchSheet(Bounds.ActWith act) {
        for (int s : OUTSIDE_SHEETS) {
            Bounds.refused("sheet " + s, Checks.BEYOND, x -> act.ask(x, s));
        }
    }

    private static void promise27() {
        sentence("A sheet has n numbers, all 0, of 8, 16 or 64 bits; bits 0: it is MISSING: n (0 if it is MISSING).");
        TanRow y = Bounds.row();
        due("the most", y.sheet(0, 8, 40), 40);
        due("the last is there", y.write(0, 39, 1), 0);
        due("what stood there is 0", y.write(0, 2, 1), 0);
        due("fewer", y.sheet(0, 8, 1), 1);
        due("the second is gone", y.write(0, 1, 1), Checks.BEYOND);
        due("more again", y.sheet(0, 8, 40), 40);
        due("all 0", y.write(0, 39, 1), 0);
        due("none at all", y.sheet(0, 64, 0), 0);
        due("is there, though", y.lays(0), 0);
        due("has no first", y.write(0, 0, 1), Checks.BEYOND);
        due("missing", y.sheet(0, 0, 40), 0);
        due("is missing", y.lays(0), Checks.MISSING);
        due("missing again", y.sheet(0, 0, 0), 0);
        due("the last sheet", y.sheet(3, 16, 40), 40);
        sentence("BEYOND: no such sheet, other bits.");
        noSuchSheet((x, s) -> x.sheet(s, 8, 1));
        for (int bits : new int[] {-8, -1, 1, 7, 9, 15, 17, 32, 63, 65, 128, Bounds.MIN, Bounds.MAX}) {
            Bounds.refused("bits " + bits, Checks.BEYOND, x -> x.sheet(0, bits, 1));
        }
        sentence("SIZE: n is below 0 (also with bits 0).");
        for (int bits : new int[] {0, 8, 16, 64}) {
            Bounds.refused("n -1, bits " + bits, Checks.SIZE, x -> x.sheet(0, bits, -1));
            Bounds.refused("n least, bits " + bits, Checks.SIZE, x -> x.sheet(0, bits, Bounds.MIN));
        }
        Bounds.refused("n -1, bits 0, missing already", Checks.SIZE, x -> x.sheet(3, 0, -1));
        sentence("BEYOND: n is above 40 (also with bits 0).");
        for (int bits : new int[] {0, 8, 16, 64}) {
            Bounds.refused("n 41, bits " + bits, Checks.BEYOND, x -> x.sheet(0, bits, 41));
            Bounds.refused("n most, bits " + bits, Checks.BEYOND, x -> x.sheet(0, bits, Bounds.MAX));
        }
        Bounds.refused("n 41, bits 0, missing already", Checks.BEYOND, x -> x.sheet(3, 0, 41));
    }

    private static void promise28() {
        sentence("Number i of a sheet becomes v (its lowest bits): what it was.");
        lowest(8, new long[][] {{127, 127}, {128, -128}, {255, -1}, {256, 0}, {-128, -128}, {-129, 127},
            {Long.MIN_VALUE, 0}, {Long.MAX_VALUE, -1}});
        lowest(16, new long[][] {{255, 255}, {32767, 32767}, {32768, -32768}, {65535, -1}, {65536, 0}, {-32769, 32767},
            {Long.MIN_VALUE, 0}, {Long.MAX_VALUE, -1}});
        lowest(64, new long[][] {{1L << 32, 1L << 32}, {Long.MIN_VALUE, Long.MIN_VALUE},
            {Long.MAX_VALUE, Long.MAX_VALUE}, {-1000000001L, -1000000001L}});
        sentence("BEYOND: no such sheet. MISSING.");
        noSuchSheet((x, s) -> x.write(s, 0, 1));
        Bounds.refused("missing", Checks.MISSING, x -> x.write(3, 0, 1));
        sentence("BEYOND: no such number.");
        for (int i : new int[] {-1, 3, 40, Bounds.MIN, Bounds.MAX}) {
            Bounds.refused("number " + i, Checks.BEYOND, x -> x.write(0, i, 1));
        }
        Bounds.refused("number 40 of 40", Checks.BEYOND, x -> x.write(2, 40, 1));
        due("number 39 of 40", Bounds.row().write(2, 39, 1), 1L << 40);
        due("number 0", Bounds.row().write(0, 0, 1), 0);
        TanRow empty = new TanRow();
        empty.sheet(0, 8, 0);
        due("number 0 of none", empty.write(0, 0, 1), Checks.BEYOND);
    }

    private static void lowest(int bits, long[][] rows) {
        TanRow x = new TanRow();
        x.sheet(0, bits, 3);
        for (long[] r : rows) {
            x.write(0, 1, r[0]);
            due(bits + " bits of " + r[0], x.write(0, 1, 0), r[1]);
        }
        due("the one before it stays", x.write(0, 0, 0), 0);
        due("the one behind it stays", x.write(0, 2, 0), 0);
        due("what was written is no finding", x.status(-1), 0);
    }

    /** Sheets 0 (1 to 5) and 1 (three) of 16 bits, 2 of 64 with none, 3 of 8 bits. */
    private static TanRow copying() {
        TanRow x = new TanRow();
        x.sheet(0, 16, 5);
        x.sheet(1, 16, 3);
        x.sheet(2, 64, 0);
        x.sheet(3, 8, 5);
        for (int i = 0; i < 5; i++) {
            x.write(0, i, i + 1);
        }
        return x;
    }

    private static void holds(String what, TanRow x, int s, long... numbers) {
        for (int i = 0; i < numbers.length; i++) {
            due(what + ", number " + i, x.write(s, i, numbers[i]), numbers[i]);
        }
    }

    private static void promise29() {
        sentence("n numbers of a sheet from one on come to another one from one on (as they all were): n.");
        TanRow x = copying();
        due("all of the other one", x.copy(0, 2, 1, 0, 3), 3);
        holds("all of the other one", x, 1, 3, 4, 5);
        due("up", x.copy(0, 0, 0, 1, 4), 4);
        holds("up", x, 0, 1, 1, 2, 3, 4);
        due("down", x.copy(0, 1, 0, 0, 4), 4);
        holds("down", x, 0, 1, 2, 3, 4, 4);
        due("onto itself", x.copy(0, 0, 0, 0, 5), 5);
        holds("onto itself", x, 0, 1, 2, 3, 4, 4);
        due("none", x.copy(0, 0, 1, 0, 0), 0);
        due("none, from both ends", x.copy(0, 5, 1, 3, 0), 0);
        due("none of none", x.copy(2, 0, 2, 0, 0), 0);
        holds("none changes nothing", x, 1, 3, 4, 5);
        due("the last to the last", x.copy(1, 2, 0, 4, 1), 1);
        holds("the last to the last", x, 0, 1, 2, 3, 4, 5);
        due("no finding", x.status(-1), 0);
        sentence("BEYOND: no such sheet (either).");
        noSuchSheet((r, s) -> r.copy(s, 0, 0, 0, 0));
        noSuchSheet((r, s) -> r.copy(0, 0, s, 0, 0));
        sentence("MISSING: one is.");
        Bounds.refused("the first", Checks.MISSING, r -> r.copy(3, 0, 0, 0, 0));
        Bounds.refused("the other", Checks.MISSING, r -> r.copy(0, 0, 3, 0, 0));
        Bounds.refused("both", Checks.MISSING, r -> r.copy(3, 0, 3, 0, 0));
        sentence("KIND: they are not of as many bits.");
        Bounds.refused("8 and 16", Checks.KIND, r -> r.copy(0, 0, 1, 0, 1));
        Bounds.refused("64 and 16", Checks.KIND, r -> r.copy(2, 0, 1, 0, 1));
        Bounds.refused("none of 8 and 64", Checks.KIND, r -> r.copy(0, 0, 2, 0, 0));
    }

    private static void promise29Ranges() {
        sentence("BEYOND: one has not so many, or from, to or n is below 0.");
        int[][] rows = {{0, 0, 1, 0, 4}, {0, 3, 1, 0, 3}, {0, 0, 1, 1, 3}, {0, 5, 1, 0, 1}, {0, 0, 1, 3, 1},
            {0, 6, 1, 0, 0}, {0, 0, 1, 4, 0}, {1, 0, 0, 0, 4}, {2, 0, 2, 0, 1}, {2, 1, 2, 0, 0},
            {0, -1, 1, 0, 1}, {0, 0, 1, -1, 1}, {0, 0, 1, 0, -1}, {0, -1, 1, 0, 0}, {0, 0, 1, -1, 0},
            {0, 1, 1, 1, -1}, {0, 0, 0, 0, 6}};
        for (int[] r : rows) {
            copyRefused(r);
        }
        // Sums that wrap around must not come out small again.
        int[][] wraps = {{0, Bounds.MAX, 1, 0, 1}, {0, 0, 1, Bounds.MAX, 1}, {0, 1, 1, 1, Bounds.MAX},
            {0, Bounds.MAX, 1, Bounds.MAX, Bounds.MAX}, {0, Bounds.MIN, 1, 0, Bounds.MIN},
            {0, 2, 1, 2, Bounds.MIN}, {0, Bounds.MIN, 1, Bounds.MIN, 1}, {0, 5, 1, 3, Bounds.MIN}};
        for (int[] r : wraps) {
            copyRefused(r);
        }
    }

    private static void copyRefused(int[] r) {
        Bounds.refusedIn(SheetBoundsTest::copying, "copy " + r[0] + " " + r[1] + " " + r[2] + " " + r[3] + " " + r[4],
            Checks.BEYOND, x -> x.copy(r[0], r[1], r[2], r[3], r[4]));
    }

    private static void promise30() {
        sentence("Numbers of a sheet become SUN of places 0, 1, .. (those that aren't 0 to 9, or stand for none, "
            + "are left out): how many came.");
        TanRow x = new TanRow();
        x.sheet(0, 64, 40);
        long[] numbers = {0, 9, -1, 10, 1L << 32, (1L << 32) + 5, Long.MIN_VALUE, Long.MAX_VALUE, 5, 6, 7, 8};
        for (int i = 0; i < numbers.length; i++) {
            x.write(0, i, numbers[i]);
        }
        due("0 and 9 and two more; the eleventh stands for none", x.lays(0), 4);
        int[] sun = {0, 9, 6, 9, 2, 5, 8, 1, 5, 6};
        for (int i = 0; i < 10; i++) {
            due("sun of " + i, x.sun(i, sun[i]), sun[i]);
        }
        x.sheet(1, 8, 0);
        due("none", x.lays(1), 0);
        x.sheet(1, 8, 1);
        due("one", x.lays(1), 1);
        x.sheet(1, 8, 10);
        x.write(1, 0, 255);
        due("of ten one is no sun", x.lays(1), 9);
        due("all else is 0", x.count(3), 0);
        x.sheet(1, 16, 40);
        due("ten of forty", x.lays(1), 10);
        sentence("how many came. BEYOND: no such sheet. MISSING.");
        noSuchSheet((r, s) -> r.lays(s));
        Bounds.refused("missing", Checks.MISSING, r -> r.lays(3));
    }

    private static void promise31() {
        sentence("A book: BROWN of one 0, 1, 2, .. HOURS ON AND ON comes to a sheet, as many as it has numbers: how many.");
        TanRow x = Checks.told("fake brown 200 on 0;fake brown 30 on 5");
        x.sheet(0, 64, 0);
        due("none", x.book(0, 0), 0);
        x.sheet(0, 64, 1);
        due("one", x.book(0, 0), 1);
        holds("0 hours on", x, 0, 400);
        x.sheet(0, 16, 40);
        due("forty", x.book(0, 0), 40);
        for (int i = 0; i < 40; i++) {
            due("hours on " + i, x.write(0, i, 0), 400 - 4 * i);
        }
        x.book(0, 1);
        due("held at 0", x.write(0, 39, 1), 0);
        x.sheet(1, 8, 3);
        x.set(1, 2, 100);
        x.set(1, 3, 31);
        due("of 8 bits", x.book(1, 1), 3);
        holds("the lowest bits of 131, 127 and 123", x, 1, -125, 127, 123);
        due("nothing goes on", x.now(0), 0);
        due("none is a finding", x.status(-1), 0);
        sentence("how many. BEYOND: no such sheet. MISSING. BEYOND: person.");
        noSuchSheet((r, s) -> r.book(s, 0));
        Bounds.refused("missing", Checks.MISSING, r -> r.book(3, 0));
        Bounds.range("person", 0, 4, (r, v) -> r.book(0, v));
    }

    private static void promise32() {
        sentence("numbers of a sheet are BROWN of one 0, 1, 2, .. HOURS ON AND ON: how many pairs of a KIND of it and "
            + "a KIND of another one make it just so.");
        TanRow x = Checks.told("guest on 0;guest brown 0");
        x.sheet(0, 16, 0);
        due("no number: every pair", x.read(0, 0, 1), 36);
        x.sheet(0, 16, 1);
        due("a first that is not so: no pair", x.read(0, 0, 1), 0);
        x.write(0, 0, 40);
        due("what it is now: every pair", x.read(0, 0, 1), 36);
        x.sheet(0, 16, 2);
        x.write(0, 0, 40);
        x.write(0, 1, 40);
        due("does not fade without sun: a colonel", x.read(0, 0, 1), 6);
        x.write(0, 1, 38);
        due("fades by 1: guest, invalid, bore, lover", x.read(0, 0, 1), 24);
        x.write(0, 1, 36);
        due("fades by 2: a fake", x.read(0, 0, 1), 6);
        x.write(0, 1, 37);
        due("nobody", x.read(0, 0, 1), 0);
        x.sheet(1, 64, 40);
        x.book(1, 0);
        due("all forty, by its own kind and its like", x.read(1, 0, 1), 12);
        x.write(1, 39, x.write(1, 39, 0) + 1);
        due("the last is not so", x.read(1, 0, 1), 0);
        x.write(1, 39, (1L << 32) + x.on(0, 39, 0) + x.on(0, 39, 1));
        due("the last is so in its lowest bits only", x.read(1, 0, 1), 0);
        due("nothing changes", x.of(0, 0) + x.of(1, 0), 0);
        TanRow beside = Checks.told("sun 0 9;guest on 0;guest brown 0 on 1");
        beside.sheet(0, 16, 2);
        beside.write(0, 0, 40);
        beside.write(0, 1, 49);
        due("given 9, which only a bore gives, to a guest", beside.read(0, 0, 1), 1);
        sentence("make it just so. BEYOND: no such sheet. MISSING. BEYOND: person, other (also one and the same).");
        noSuchSheet((r, s) -> r.read(s, 0, 1));
        Bounds.refused("missing", Checks.MISSING, r -> r.read(3, 0, 1));
        Bounds.range("person", 0, 4, (r, v) -> r.read(0, v, 1));
        Bounds.range("other", 0, 4, (r, v) -> r.read(0, 1, v));
        for (int p = 0; p < 5; p++) {
            int same = p;
            Bounds.refused("one and the same " + p, Checks.BEYOND, r -> r.read(0, same, same));
        }
    }

    private static void promise33() {
        sentence("All that section 1 tells (THE TAPE not) is kept: 1.");
        TanRow x = new TanRow();
        due("with nobody there", x.image(), 1);
        x.person(0);
        due("nobody again", x.undo(), 0);
        due("nobody 0", x.of(0, 0), Checks.BEYOND);
        TanRow full = Bounds.full();
        full.image();
        full.wipe();
        full.hours(50);
        full.sit(0, -1);
        full.sit(7, 0);
        full.sun(9, 0);
        full.sheet(0, 8, 2);
        due("with all there", full.undo(), 8);
        due("the tape is not kept", full.count(1), 0);
        due("nor are sheets", full.write(0, 1, 1), 0);
        due("the hour is", full.now(0), 2);
        due("who sits is", full.now(3), 127);
        due("on which chair is", full.chair(0), 0);
        due("the sun is", full.sun(9, 7), 7);
    }

    private static void promise34() {
        sentence("It becomes what was kept latest (which stays): how many PEOPLE.");
        TanRow x = Checks.told("guest on 0");
        x.image();
        x.person(1);
        x.image();
        x.person(2);
        due("the latest", x.undo(), 2);
        x.hours(1);
        x.set(0, 2, 111);
        due("it stays", x.undo(), 2);
        due("and is not what came of it", x.of(0, 2), 20);
        due("nor its hour", x.now(0), 0);
        due("once more", x.undo(), 2);
        sentence("NONE: nothing is kept.");
        Bounds.refusedIn(Bounds::made, "at first", Checks.NONE, r -> r.undo());
        Bounds.refusedIn(SheetBoundsTest::torn, "torn", Checks.NONE, r -> r.undo());
    }

    private static TanRow torn() {
        TanRow x = Bounds.row();
        x.tear();
        return x;
    }

    private static void promise35() {
        sentence("Nothing is kept: 1 if something was, else 0.");
        TanRow x = new TanRow();
        due("nothing was", x.tear(), 0);
        x.image();
        x.image();
        due("something was", x.tear(), 1);
        due("nothing is left of two", x.tear(), 0);
        due("undo", x.undo(), Checks.NONE);
        x.image();
        x.undo();
        due("undo takes it not", x.tear(), 1);
        due("tear counts no finding", x.status(-1), 1);
    }

    private static void promise36() {
        sentence("0 PEOPLE, 1 bytes of THE TAPE, 2 those that sit, 3 SUN of all places together.");
        TanRow x = new TanRow();
        due("nobody", x.count(0), 0);
        due("no byte", x.count(1), 0);
        due("none sits", x.count(2), 0);
        due("sun at first", x.count(3), 45);
        TanRow full = Bounds.full();
        due("all", full.count(0), 8);
        due("all bytes", full.count(1), 120);
        due("all but one", full.count(2), 7);
        full.sit(7, 8);
        due("all sit", full.count(2), 8);
        sentence("BEYOND: another what.");
        Bounds.range("what", 0, 3, (r, v) -> r.count(v));
    }

    private static void promise37() {
        sentence("How many acts answered a finding ever (undo() takes none back): which -1: all, 0 to 6: BEYOND to SIZE.");
        TanRow x = Bounds.full();
        for (int which = -1; which <= 6; which++) {
            due("none " + which, x.status(which), 0);
        }
        x.sheet(0, 8, -1);
        x.chair(-1);
        due("the last", x.status(6), 1);
        due("the first", x.status(0), 1);
        due("all", x.status(-1), 2);
        x.undo();
        due("undo takes none back", x.status(-1), 2);
        x.image();
        x.chair(-1);
        x.undo();
        due("nor those since the image", x.status(0), 2);
        sentence("BEYOND (counted from then on): another one.");
        for (int which : new int[] {-2, 7, Bounds.MIN, Bounds.MAX}) {
            Bounds.refused("which " + which, Checks.BEYOND, r -> r.status(which));
        }
        due("it is counted", x.status(7), Checks.BEYOND);
        due("from then on", x.status(0), 3);
        due("among all", x.status(-1), 4);
        due("a status that is told is none", x.status(-1), 4);
    }
}
