/** The boundary cases of THE TEXT (Terms) and of promises 24 to 26, each under the document's own words. */
public final class TextBoundsTest {
    private static final String BLANKS = " ".repeat(120);

    public static void main(String[] args) {
        tape();
        tokens();
        text();
        itemsOfPeople();
        itemsOfSun();
        itemsOfGoing();
        faults();
        endsTooEarly();
        promise24();
        promise25();
        promise26();
        Checks.end();
    }

    private static void sentence(String words) {
        Bounds.sentence(words);
    }

    private static void due(String what, long got, long want) {
        Bounds.due(what, got, want);
    }

    /** Asked in a row of five, of whom 0 is on 3, 1 on 4, 2 on 8, 3 on none and 4 on 5. */
    private static TanRow fed(String text) {
        TanRow x = Bounds.row();
        x.wipe();
        return Checks.fed(x, text);
    }

    private static void items(String text, int items) {
        TanRow x = fed(text);
        due("\"" + text + "\"", x.esplanade(), items);
        due("\"" + text + "\" leaves an empty tape", x.count(1), 0);
        due("\"" + text + "\" is no finding", x.status(-1), 0);
    }

    /** The answer is -1 less the place; nothing changes but that the tape is empty. */
    private static void fault(String text, int place) {
        TanRow x = fed(text);
        TanRow twin = fed("");
        due("\"" + text + "\"", x.esplanade(), -1 - place);
        due("\"" + text + "\" leaves an empty tape", x.count(1), 0);
        due("\"" + text + "\" is no finding", x.status(-1), 0);
        Bounds.same("\"" + text + "\"", x, twin);
    }

    private static void tape() {
        sentence("THE TAPE (bytes, at most 120)");
        String most = "guest brown 200 on 0" + BLANKS.substring(0, 98) + ";b";
        items(most.substring(0, 118) + " " + " ", 1);
        fault(most, 119);
        TanRow x = new TanRow();
        Checks.fed(x, BLANKS);
        due("full", x.count(1), 120);
        due("no 121st", x.feed(32, 1), Checks.FULL);
        due("120 blanks end too early", x.esplanade(), -121);
        Checks.fed(x, "sun 0 1;sun 0 2;sun 0 3;sun 0 4;sun 0 5;sun 0 6;sun 0 7;sun 0 8;sun 0 9;sun 0 8;"
            + "sun 0 7;sun 0 6;sun 0 5;sun 0 4;sun 0  3");
        due("fifteen items on 120 bytes", x.esplanade(), 15);
        due("the last of them stays", x.now(2), 3);
    }

    private static void tokens() {
        sentence("TOKENS, each as long as can be");
        fault("guestbrown 3", 0);
        fault("sun12", 3);
        fault("sun 12", 4);
        items("sun1 2", 1);
        items("guest brown 200on 0", 1);
        items("guest on 0;bore on 1", 2);
        fault("guest on 0bore", 10);
        sentence("WORDS (letters a to z)");
        fault("Guest", 0);
        fault("guesT", 0);
        fault("`guest", 0);
        fault("{guest", 0);
        fault("guest`", 5);
        fault("guest{", 5);
        fault("zguest", 0);
        fault("guesta", 0);
        fault("guestz", 0);
        fault("guest z", 6);
        sentence("NUMBERS (digits, 999 at most)");
        fault("guest brown 999", 12);
        fault("guest brown 1000", 12);
        fault("sun 1 1000", 6);
        fault("guest brown 2147483648", 12);
        fault("guest brown 4294967296", 12);
        fault("guest brown 4294967496", 12);
        fault("guest brown 18446744073709551616", 12);
        fault("guest brown 99999999999999999999999999999999999999999999", 12);
        fault("sun / 1", 4);
        fault("sun : 1", 4);
        fault("sun 1/", 5);
        fault("sun 1:", 5);
        fault("guest brown -1", 12);
        fault("guest brown +1", 12);
        sentence("SIGN ; ; blanks may stand between.");
        items("   sun   1   2   ;   guest   ", 2);
        items("guest;bore", 2);
        fault("guest,bore", 5);
        fault("guest:bore", 5);
        fault("guest<bore", 5);
        fault("guest\tbrown 3", 5);
        fault("guest\n", 5);
        fault("gu est", 0);
        fault("guest brown 1 0", 14);
    }

    private static void text() {
        sentence("TEXT: ITEM { ; ITEM }.");
        items("guest", 1);
        items("guest;guest;guest", 3);
        fault("guest;", 6);
        fault(";guest", 0);
        fault("guest;;guest", 6);
        fault(";", 0);
        fault("guest guest", 6);
        fault("sun 1 2 sun 1 2", 8);
        fault("goes 0 goes 1", 7);
    }

    private static void itemsOfPeople() {
        sentence("the name of a KIND (guest colonel invalid bore lover fake)");
        String[] names = {"guest", "colonel", "invalid", "bore", "lover", "fake"};
        for (int kind = 0; kind < 6; kind++) {
            TanRow x = fed(names[kind]);
            due(names[kind], x.esplanade(), 1);
            due(names[kind] + " is of its kind", x.of(5, 0), kind);
            due(names[kind] + " is 20 brown", x.of(5, 2) + x.of(5, 3), 40);
            due(names[kind] + " is on none", x.of(5, 1), -1);
            fault(names[kind].substring(0, names[kind].length() - 1), 0);
            fault(names[kind] + "s", 0);
            fault("z" + names[kind].substring(1), 0);
            fault(names[kind].substring(0, names[kind].length() - 1) + "z", 0);
        }
        sentence("perhaps brown and a NUMBER (0 to 200: LEFT and RIGHT)");
        for (int brown : new int[] {0, 200}) {
            TanRow x = fed("guest brown " + brown);
            due("brown " + brown, x.esplanade(), 1);
            due("left", x.of(5, 2), brown);
            due("right", x.of(5, 3), brown);
        }
        fault("guest brown 201", 12);
        fault("guest brown brown 3", 12);
        fault("guest brown 3 brown 3", 14);
        fault("guest 3", 6);
        sentence("perhaps on and a NUMBER (a CHAIR with nobody on it): one more");
        for (int chair : new int[] {0, 9}) {
            TanRow x = fed("guest on " + chair);
            due("on " + chair, x.esplanade(), 1);
            due("sits there", x.chair(chair), 5);
        }
        fault("guest on 10", 9);
        fault("guest on 3", 9);
        fault("guest on 8", 9);
        fault("guest on 1;bore on 1", 19);
        items("goes 0;guest on 3", 2);
        items("guest on 1;goes 5;bore on 1", 3);
        fault("guest on 1 on 2", 11);
        fault("guest on 1 brown 3", 11);
        fault("guest on on 1", 9);
    }

    private static void itemsOfSun() {
        sentence("sun, a NUMBER (0 to 9), a NUMBER (0 to 9)");
        int[][] rows = {{0, 0}, {0, 9}, {9, 0}, {9, 9}};
        for (int[] r : rows) {
            TanRow x = fed("sun " + r[0] + " " + r[1]);
            due("sun " + r[0] + " " + r[1], x.esplanade(), 1);
            due("sun is " + r[1], x.sun(r[0], 5), r[1]);
        }
        fault("sun 10 0", 4);
        fault("sun 0 10", 6);
        fault("sun a 0", 4);
        fault("sun 0 a", 6);
        fault("sun ; 0", 4);
        fault("sun 0;0", 5);
        fault("sun 0 0 0", 8);
        fault("suns 0 0", 0);
    }

    private static void itemsOfGoing() {
        sentence("goes, a NUMBER (one there by then): it sits ON none");
        TanRow x = fed("goes 0;goes 4;goes 3");
        due("who sits and who is on none", x.esplanade(), 3);
        due("the first is on none", x.of(0, 1), -1);
        due("the last is on none", x.of(4, 1), -1);
        due("their chairs are free", x.chair(3) + x.chair(5), -2);
        fault("goes 5", 5);
        fault("goes 5;guest", 5);
        items("guest on 0;goes 5", 2);
        fault("goes guest", 5);
        TanRow nobody = Checks.fed(new TanRow(), "goes 0");
        due("nobody is there", nobody.esplanade(), -6);
        TanRow full = Bounds.full();
        full.wipe();
        Checks.fed(full, "goes 7;goes 8");
        due("no 9th goes", full.esplanade(), -13);
    }

    private static void faults() {
        sentence("a NUMBER that may not be");
        fault("sun 0 1;bore brown 201 on 0", 19);
        fault("sun 0 1;5", 8);
        sentence("another WORD");
        fault("sun 0 1;brown 3", 8);
        fault("sun 0 1;on 3", 8);
        fault("sun 0 1;governess", 8);
        fault("guest sun 1 1", 6);
        sentence("a byte that begins no TOKEN");
        fault("sun 0 1;#", 8);
        fault("guest !", 6);
        byteFault(0);
        byteFault(31);
        byteFault(33);
        byteFault(127);
        byteFault(128);
        byteFault(160);
        byteFault(225);
        byteFault(255);
        sentence("the name of a KIND for a 9th: its own");
        TanRow full = Bounds.full();
        full.wipe();
        Checks.fed(full, "sun 5 0;  guest brown 201");
        due("at the name, not at what follows", full.esplanade(), -11);
        due("no sun came", full.sun(5, 5), 5);
        Checks.fed(full, "governess");
        due("another word with 8 there", full.esplanade(), -1);
        Checks.fed(full, "goes 0;guest");
        due("who goes is still there", full.esplanade(), -8);
        fault("guest;guest;guest;guest", 18);
        items("guest;guest;guest", 3);
    }

    private static void byteFault(int b) {
        TanRow x = fed("bore ");
        x.feed(b, 1);
        due("byte " + b, x.esplanade(), -6);
        due("nobody came by byte " + b, x.count(0), 5);
    }

    private static void endsTooEarly() {
        sentence("or how many bytes there are if it ends too early");
        fault("", 0);
        fault(" ", 1);
        fault("guest brown", 11);
        fault("guest brown  ", 13);
        fault("guest brown 3 on", 16);
        fault("guest on ", 9);
        fault("sun", 3);
        fault("sun 1", 5);
        fault("sun 1 ", 6);
        fault("goes", 4);
        fault("guest ; ", 8);
    }

    private static void promise24() {
        sentence("THE TAPE gets the n lowest bytes of a number behind it, the highest of these first (n 1 to 4): "
            + "how many it has.");
        int bytes = 's' << 24 | 'u' << 16 | 'n' << 8 | '0';
        TanRow x = new TanRow();
        due("4 of 4", x.feed(bytes, 4), 4);
        due("1 of 4, the lowest", x.feed('g' << 24 | 'u' << 16 | 'n' << 8 | ' ', 1), 5);
        due("3 of 4", x.feed(0x7F000000 | '7' << 16 | ';' << 8 | 'b', 3), 8);
        due("2 of 4", x.feed(0x80FF0000 | 'o' << 8 | 'r', 2), 10);
        due("1", x.feed('e', 1), 11);
        due("they stand in order", x.esplanade(), 2);
        due("the sun came", x.now(2), 7);
        due("the bore came", x.of(0, 0), 3);
        due("the highest byte of a number below 0", x.feed(-1, 4), 4);
        due("is a byte of its own", x.esplanade(), -1);
        due("the least number", x.feed(Bounds.MIN, 4), 4);
        due("begins with byte 128", x.esplanade(), -1);
        sentence("BEYOND: n.");
        Bounds.range("n", 1, 4, (r, v) -> r.feed(0x20202020, v));
        sentence("BEYOND: n. FULL.");
        for (int n = 1; n <= 4; n++) {
            int last = n;
            Bounds.refusedIn(Bounds::full, "no room for " + n, Checks.FULL, r -> r.feed(0x20202020, last));
            Bounds.refusedIn(() -> filled(121 - last), "one too many of " + n, Checks.FULL, r -> r.feed(0x20202020, last));
            due("just room for " + n, filled(120 - n).feed(0x20202020, n), 120);
        }
    }

    private static TanRow filled(int bytes) {
        return Checks.fed(new TanRow(), ("guest" + BLANKS).substring(0, bytes));
    }

    private static void promise25() {
        sentence("THE TAPE is empty: how many it had.");
        TanRow x = filled(120);
        due("all", x.wipe(), 120);
        due("none", x.wipe(), 0);
        due("counted", x.count(1), 0);
        due("there is room again", x.feed('b' << 24 | 'o' << 16 | 'r' << 8 | 'e', 4), 4);
        due("and what stood there is gone", x.esplanade(), 1);
        due("a bore", x.of(0, 0), 3);
        due("one byte", filled(1).wipe(), 1);
    }

    private static void promise26() {
        sentence("THE TAPE is THE TEXT of an ESPLANADE, whose ITEMS come to what there is, and empty then: how many ITEMS.");
        TanRow x = fed("guest on 0;sun 3 8;goes 1");
        due("three", x.esplanade(), 3);
        due("empty then", x.count(1), 0);
        due("an empty tape is no text", x.esplanade(), -1);
        due("those that were there stay", x.count(0), 6);
        due("the hour stays", x.now(0), 3);
        due("burnt stays", x.of(0, 4) >= 7 ? 1 : 0, 1);
        sentence("With a FAULT: -1 less its place (nothing changes but that THE TAPE is empty; no finding).");
        fault("guest on 0;sun 3 8;goes 1;fake brown 3;x", 39);
        fault("goes 0;goes 1;goes 2;goes 4;guest on 3;", 39);
        TanRow after = fed("guest on 0;x");
        due("a fault", after.esplanade(), -12);
        Checks.fed(after, "guest on 0");
        due("its chair is still free", after.esplanade(), 1);
    }
}
