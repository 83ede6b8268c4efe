/** The boundary cases that the document's Terms name, each under its own words (THE TEXT: TextBoundsTest). */
public final class TermsBoundsTest {
    private static final int GUEST = 0;
    private static final int COLONEL = 1;
    private static final int INVALID = 2;
    private static final int BORE = 3;
    private static final int LOVER = 4;
    private static final int FAKE = 5;

    public static void main(String[] args) {
        findings();
        ordersOfPeopleAndHours();
        ordersOfTextAndSheets();
        refusedChangesNothing();
        quotientsAndSets();
        hourAndPlace();
        sunChairsAndPeople();
        brownAndBurnt();
        neighbours();
        glows();
        takes();
        fades();
        burns();
        anHour();
        even();
        onAndOn();
        sheets();
        Checks.end();
    }

    private static void sentence(String words) {
        Bounds.sentence(words);
    }

    private static void due(String what, long got, long want) {
        Bounds.due(what, got, want);
    }

    private static void findings() {
        sentence("-1000000001 BEYOND, -1000000002 FULL, -1000000003 KIND, -1000000004 NONE, -1000000005 STATE, "
            + "-1000000006 MISSING, -1000000007 SIZE (in longs, too)");
        TanRow x = Bounds.full();
        due("BEYOND", x.chair(10), -1000000001);
        due("FULL", x.person(0), -1000000002);
        due("KIND", x.as(0, 1), -1000000003);
        due("STATE", x.sit(0, 1), -1000000005);
        due("MISSING", x.lays(0), -1000000006);
        due("SIZE", x.sheet(0, 8, -1), -1000000007);
        x.tear();
        due("NONE", x.undo(), -1000000004);
        due("BEYOND in a long", x.write(4, 0, 0L), -1000000001L);
        due("MISSING in a long", x.write(0, 0, 0L), -1000000006L);
        due("all were counted", x.status(-1), 9);
    }

    private static void ordersOfPeopleAndHours() {
        sentence("Each act tells its findings in the order in which they are asked");
        Bounds.refusedIn(Bounds::full, "person: BEYOND ahead of FULL", Checks.BEYOND, x -> x.person(6));
        Bounds.refused("as: BEYOND (person) ahead of KIND", Checks.BEYOND, x -> x.as(5, 5));
        Bounds.refused("as: BEYOND (kind) ahead of KIND", Checks.BEYOND, x -> x.as(0, 6));
        Bounds.refused("sit: BEYOND ahead of STATE", Checks.BEYOND, x -> x.sit(5, 3));
        Bounds.refused("change: BEYOND (n) ahead of STATE", Checks.BEYOND, x -> x.change(3, 0));
        Bounds.refusedIn(TermsBoundsTest::standing, "change: STATE ahead of NONE", Checks.STATE, x -> x.change(0, 1));
        Bounds.refusedIn(TermsBoundsTest::standing, "change: BEYOND ahead of both", Checks.BEYOND, x -> x.change(0, 61));
        Bounds.refusedIn(TermsBoundsTest::standing, "send: BEYOND ahead of NONE", Checks.BEYOND, x -> x.send(61));
        Bounds.refusedIn(Bounds::made, "brownest: BEYOND ahead of NONE", Checks.BEYOND, x -> x.brownest(201));
        Bounds.refused("brown: BEYOND ahead of NONE", Checks.BEYOND, x -> x.brown(3, 401));
        Bounds.refusedIn(Bounds::made, "burns: BEYOND ahead of NONE", Checks.BEYOND, x -> x.burns(0));
        Bounds.refusedIn(Bounds::made, "even: BEYOND ahead of NONE", Checks.BEYOND, x -> x.even(0));
        Bounds.refused("enough: BEYOND ahead of NONE", Checks.BEYOND, x -> x.enough(3, 0, 61, 400));
    }

    private static void ordersOfTextAndSheets() {
        sentence("Each act tells its findings in the order in which they are asked");
        Bounds.refusedIn(Bounds::full, "feed: BEYOND ahead of FULL", Checks.BEYOND, x -> x.feed(0, 5));
        Bounds.refused("sheet: BEYOND (sheet) ahead of SIZE", Checks.BEYOND, x -> x.sheet(4, 8, -1));
        Bounds.refused("sheet: BEYOND (bits) ahead of SIZE", Checks.BEYOND, x -> x.sheet(0, 32, -1));
        Bounds.refused("write: MISSING ahead of BEYOND (number)", Checks.MISSING, x -> x.write(3, -1, 0));
        Bounds.refused("copy: BEYOND (the first) ahead of MISSING", Checks.BEYOND, x -> x.copy(4, 0, 3, 0, 0));
        Bounds.refused("copy: BEYOND (the other) ahead of MISSING", Checks.BEYOND, x -> x.copy(3, 0, 4, 0, 0));
        Bounds.refused("copy: MISSING ahead of KIND", Checks.MISSING, x -> x.copy(0, 0, 3, 0, 0));
        Bounds.refused("copy: MISSING ahead of BEYOND (from)", Checks.MISSING, x -> x.copy(3, -1, 0, 0, 0));
        Bounds.refused("copy: KIND ahead of BEYOND (n)", Checks.KIND, x -> x.copy(0, 0, 1, 0, 41));
        Bounds.refused("copy: KIND ahead of BEYOND (below 0)", Checks.KIND, x -> x.copy(0, -1, 1, -1, -1));
        Bounds.refused("book: BEYOND (sheet) ahead of MISSING", Checks.BEYOND, x -> x.book(4, 0));
        Bounds.refused("book: MISSING ahead of BEYOND (person)", Checks.MISSING, x -> x.book(3, 5));
        Bounds.refused("read: MISSING ahead of BEYOND (person)", Checks.MISSING, x -> x.read(3, 5, 0));
        Bounds.refused("read: MISSING ahead of BEYOND (the same)", Checks.MISSING, x -> x.read(3, 0, 0));
    }

    private static TanRow standing() {
        return Checks.told("guest;colonel");
    }

    private static void refusedChangesNothing() {
        sentence("one that answers a finding changes nothing but status()");
        Bounds.refused("BEYOND", Checks.BEYOND, x -> x.set(0, 2, 201));
        Bounds.refusedIn(Bounds::full, "FULL of people", Checks.FULL, x -> x.person(1));
        Bounds.refusedIn(Bounds::full, "FULL of bytes", Checks.FULL, x -> x.feed(32, 1));
        Bounds.refused("KIND", Checks.KIND, x -> x.as(0, 1));
        Bounds.refused("NONE", Checks.NONE, x -> x.brown(3, 400));
        Bounds.refused("STATE", Checks.STATE, x -> x.sit(0, 4));
        Bounds.refused("MISSING", Checks.MISSING, x -> x.write(3, 0, 1));
        Bounds.refused("SIZE", Checks.SIZE, x -> x.sheet(0, 8, -1));
    }

    private static void quotientsAndSets() {
        sentence("Quotients are cut.");
        due("half of 1", glow(INVALID, 20, 9, GUEST), 0);
        due("half of 9", glow(INVALID, 180, 9, GUEST), 4);
        due("80 by 9", glow(GUEST, 200, 8, GUEST), 8);
        sentence("Sets are told by bits.");
        TanRow x = new TanRow();
        due("nobody sits", x.now(3), 0);
        due("nobody is even", x.now(4), 0);
        for (int p = 0; p < 8; p++) {
            x.person(GUEST);
            x.set(p, 2, 0);
        }
        x.sit(7, 9);
        x.set(7, 3, 0);
        due("the last alone sits", x.now(3), 128);
        due("the last alone is even", x.now(4), 128);
        x.sit(0, 0);
        due("the first and the last sit", x.now(3), 129);
        for (int p = 1; p < 7; p++) {
            x.sit(p, p);
        }
        for (int p = 0; p < 7; p++) {
            x.set(p, 3, 5);
        }
        due("all sit", x.now(3), 255);
        due("all are even", x.now(4), 255);
    }

    private static void hourAndPlace() {
        sentence("HOUR: 0 at first (99999 at most); its place: its rest by 10.");
        TanRow x = new TanRow();
        due("hour at first", x.now(0), 0);
        due("place at first", x.now(1), 0);
        int[] sun = {0, 3, 6, 9, 2, 5, 8, 1, 4, 7};
        for (int hour = 1; hour <= 21; hour++) {
            x.hours(1);
            due("hour", x.now(0), hour);
            due("place in hour " + hour, x.now(1), hour % 10);
            due("sun in hour " + hour, x.now(2), sun[hour % 10]);
        }
        x.hours(78);
        due("hour 99", x.now(1), 9);
        x.hours(1);
        due("hour 100", x.now(1), 0);
    }

    private static void sunChairsAndPeople() {
        sentence("SUN: 10 numbers (0 to 9; of place i at first as much as the rest of 3 times i by 10).");
        TanRow x = new TanRow();
        int[] first = {0, 3, 6, 9, 2, 5, 8, 1, 4, 7};
        for (int i = 0; i < 10; i++) {
            due("sun of " + i, x.sun(i, 9), first[i]);
        }
        due("the most of all", x.count(3), 90);
        for (int i = 0; i < 10; i++) {
            x.sun(i, 0);
        }
        due("the least of all", x.count(3), 0);
        sentence("PEOPLE 0, 1, .. (at most 8)");
        for (int p = 0; p < 8; p++) {
            due("one more", x.person(p % 6), p);
        }
        due("a 9th", x.person(GUEST), Checks.FULL);
        due("how many", x.count(0), 8);
        sentence("each ON a CHAIR (no two ON one), or none (-1; at first)");
        for (int p = 0; p < 8; p++) {
            due("on none at first", x.of(p, 1), -1);
        }
        x.sit(0, 0);
        due("no second on one", x.sit(1, 0), Checks.STATE);
        due("who was there stays", x.chair(0), 0);
        due("who was refused is on none", x.of(1, 1), -1);
        x.sit(2, 9);
        x.sit(0, -1);
        x.sit(2, -1);
        due("many on none", x.count(2), 0);
    }

    private static void brownAndBurnt() {
        sentence("LEFT and RIGHT: how brown it is there (0 to 200; 20 at first)");
        TanRow x = Checks.told("fake");
        due("left at first", x.set(0, 2, 0), 20);
        due("right at first", x.set(0, 3, 200), 20);
        x.sit(0, 0);
        x.hours(1);
        due("not below 0", x.of(0, 2), 0);
        x.hours(100);
        due("down to 0", x.of(0, 3), 0);
        sentence("BURNT (hours; 0 at first, held to 9999)");
        TanRow y = Checks.told("sun 0 9;sun 1 9;guest on 4;colonel brown 180 on 3;colonel brown 180 on 5");
        due("at first", y.set(0, 4, 9997), 0);
        due("by both sides to the most", y.on(0, 1, 2), 9999);
        y.set(0, 4, 9998);
        y.hours(1);
        due("held, one side of two counts", y.of(0, 4), 9999);
        y.hours(1);
        due("held on", y.of(0, 4), 9999);
        due("held on and on", y.on(0, 200, 2), 9999);
    }

    private static void neighbours() {
        sentence("The one to one's LEFT sits ON the CHAIR of 1 less, the one to one's RIGHT ON that of 1 more.");
        TanRow x = Checks.told("sun 0 9;bore on 0;bore on 9;bore on 2");
        due("no row goes round: left of 0", x.of(0, 7), -1);
        due("no row goes round: right of 9", x.of(1, 8), -1);
        due("nothing is given to 0 on its left", x.given(0, 0), 0);
        due("nothing is given to 9 on its right", x.given(1, 1), 0);
        due("2 apart, right", x.of(0, 8), -1);
        due("2 apart, left", x.of(2, 7), -1);
        x.sit(2, 1);
        due("1 more", x.of(0, 8), 2);
        due("1 less", x.of(2, 7), 0);
        x.sit(2, 8);
        due("the last chair is 1 more than 8", x.of(2, 8), 1);
        due("8 is 1 less than the last chair", x.of(1, 7), 2);
        x.sit(0, -1);
        due("one on none has nobody on chair 0 to its right", x.of(0, 8), -1);
        x.sit(2, 0);
        due("one on none is nobody's left", x.of(2, 7), -1);
        due("chair 0 is not beside none", x.of(0, 8), -1);
    }

    /** What one of a kind, so brown, gives to one of another kind on a chair of 1 less. */
    private static int glow(int kind, int brown, int sun, int toKind) {
        TanRow x = new TanRow();
        x.sun(0, sun);
        x.person(toKind);
        x.person(kind);
        x.sit(0, 1);
        x.sit(1, 2);
        x.set(1, 2, brown);
        x.set(1, 3, 200 - brown);
        int given = x.given(0, 1);
        // The same the other way round: by its right to one on a chair of 1 more.
        x.sit(0, 3);
        x.set(1, 3, brown);
        x.set(1, 2, 200 - brown);
        due("glow by its right", x.given(0, 0), given);
        return given;
    }

    private static void glowsAre(int kind, int toKind, int[][] rows) {
        for (int[] r : rows) {
            due("kind " + kind + " to kind " + toKind + ", brown " + r[0] + ", sun " + r[1],
                glow(kind, r[0], r[1], toKind), r[2]);
        }
    }

    private static void glows() {
        sentence("GUEST: (b by 20) times s, by 9 (cut each time).");
        glowsAre(GUEST, GUEST, new int[][] {{0, 9, 0}, {19, 9, 0}, {20, 9, 1}, {39, 9, 1}, {40, 9, 2}, {199, 9, 9},
            {200, 9, 10}, {200, 1, 1}, {179, 1, 0}, {180, 1, 1}, {39, 5, 0}, {199, 8, 8}});
        sentence("COLONEL: as GUEST, and 3.");
        glowsAre(COLONEL, GUEST, new int[][] {{0, 1, 3}, {19, 9, 3}, {20, 9, 4}, {179, 1, 3}, {200, 9, 13}});
        sentence("INVALID: half of as GUEST.");
        glowsAre(INVALID, GUEST, new int[][] {{0, 9, 0}, {39, 9, 0}, {40, 9, 1}, {79, 9, 1}, {80, 9, 2}, {200, 9, 5}});
        sentence("BORE: 9.");
        glowsAre(BORE, GUEST, new int[][] {{0, 1, 9}, {200, 9, 9}, {200, 1, 9}});
        sentence("LOVER: as INVALID, twice that, if the other one is a LOVER, too.");
        glowsAre(LOVER, LOVER, new int[][] {{0, 9, 0}, {20, 9, 0}, {60, 9, 2}, {199, 9, 8}, {200, 9, 10}});
        glowsAre(LOVER, INVALID, new int[][] {{20, 9, 0}, {60, 9, 1}, {200, 9, 5}});
        glowsAre(LOVER, GUEST, new int[][] {{60, 9, 1}, {200, 9, 5}});
        glowsAre(INVALID, LOVER, new int[][] {{60, 9, 1}, {200, 9, 5}});
        sentence("FAKE: as COLONEL, less 4 (0 at least).");
        glowsAre(FAKE, GUEST, new int[][] {{0, 9, 0}, {19, 1, 0}, {20, 9, 0}, {40, 9, 1}, {200, 9, 9}});
        sentence("(0, if s is 0.)");
        for (int kind = GUEST; kind <= FAKE; kind++) {
            glowsAre(kind, GUEST, new int[][] {{0, 0, 0}, {200, 0, 0}});
            glowsAre(kind, LOVER, new int[][] {{0, 0, 0}, {200, 0, 0}});
        }
    }

    /** What one at 100 is on its right an HOUR on, beside a guest that gives so much. */
    private static int browned(int kind, int given) {
        TanRow x = new TanRow();
        x.sun(0, 9);
        x.person(kind);
        x.person(GUEST);
        x.sit(0, 1);
        x.sit(1, 2);
        x.set(0, 3, 100);
        x.set(1, 2, 20 * given);
        x.hours(1);
        return x.of(0, 3);
    }

    private static void takesAre(String words, int kind, int[] givenNoneOneTwoNine) {
        sentence(words);
        int[] given = {0, 1, 2, 9};
        for (int i = 0; i < given.length; i++) {
            due("given " + given[i], browned(kind, given[i]), 100 + givenNoneOneTwoNine[i]);
        }
    }

    /** In sun, where a guest does not fade; an invalid and a lover fade 1, a fake 2. */
    private static void takes() {
        takesAre("GUEST: all.", GUEST, new int[] {0, 1, 2, 9});
        takesAre("COLONEL: half.", COLONEL, new int[] {0, 0, 1, 4});
        takesAre("INVALID: all, and 1, if any.", INVALID, new int[] {-1, 2 - 1, 3 - 1, 10 - 1});
        takesAre("BORE: none.", BORE, new int[] {0, 0, 0, 0});
        takesAre("LOVER: as INVALID.", LOVER, new int[] {-1, 2 - 1, 3 - 1, 10 - 1});
        takesAre("FAKE: as COLONEL, and 2, if any is given.", FAKE, new int[] {-2, 2 - 2, 3 - 2, 6 - 2});
    }

    private static void fadesAre(TanRow x, int noSun, int leastSun, int mostSun) {
        int[] suns = {0, 1, 9};
        int[] fades = {noSun, leastSun, mostSun};
        for (int i = 0; i < 3; i++) {
            x.sun(0, suns[i]);
            due("sun " + suns[i], x.of(0, 5), fades[i]);
            due("sun " + suns[i] + ", in an hour", x.on(0, 1, 0), 20 - (x.of(0, 1) < 0 ? 0 : fades[i]));
        }
    }

    private static void fades() {
        sentence("GUEST: 1, if SUN is 0, else 0.");
        fadesAre(Checks.told("guest on 0"), 1, 0, 0);
        sentence("COLONEL: 0.");
        fadesAre(Checks.told("colonel on 0"), 0, 0, 0);
        sentence("INVALID: 1.");
        fadesAre(Checks.told("invalid on 0"), 1, 1, 1);
        sentence("BORE: as GUEST.");
        fadesAre(Checks.told("bore on 0"), 1, 0, 0);
        sentence("LOVER: as INVALID, but 0, if it has both neighbours.");
        fadesAre(Checks.told("lover on 0"), 1, 1, 1);
        fadesAre(Checks.told("lover"), 1, 1, 1);
        fadesAre(Checks.told("lover on 0;guest brown 0 on 1"), 1, 1, 1);
        fadesAre(Checks.told("lover on 9;guest brown 0 on 8"), 1, 1, 1);
        fadesAre(Checks.told("lover on 5;guest brown 0 on 4;guest brown 0 on 6"), 0, 0, 0);
        fadesAre(Checks.told("lover on 0;guest brown 0 on 9;guest brown 0 on 1"), 1, 1, 1);
        TanRow between = Checks.told("guest on 4;guest on 6;lover on 5");
        due("person 0 to its left", between.of(2, 5), 0);
        between.sit(0, 9);
        due("person 0 gone", between.of(2, 5), 1);
        between.sit(1, 4);
        between.sit(0, 6);
        due("person 0 to its right", between.of(2, 5), 0);
        sentence("FAKE: 2.");
        fadesAre(Checks.told("fake on 0"), 2, 2, 2);
    }

    /** BURNT an HOUR on of one of a kind beside a giver in SUN 9. */
    private static int burnt(int kind, int giver, int brown) {
        TanRow x = new TanRow();
        x.sun(0, 9);
        x.person(kind);
        x.person(giver);
        x.sit(0, 1);
        x.sit(1, 2);
        x.set(1, 2, brown);
        int right = x.on(0, 1, 2);
        x.sit(1, 0);
        x.set(1, 3, brown);
        due("burnt on the left", x.on(0, 1, 2), right);
        return right;
    }

    private static void burns() {
        sentence("GUEST: 12.");
        due("given 11", burnt(GUEST, COLONEL, 179), 0);
        due("given 12", burnt(GUEST, COLONEL, 180), 1);
        sentence("COLONEL: 40.");
        due("told", Checks.told("colonel").of(0, 6), 40);
        due("given 13, the most there is", burnt(COLONEL, COLONEL, 200), 0);
        sentence("INVALID: 8.");
        due("given 7", burnt(INVALID, GUEST, 159), 0);
        due("given 8", burnt(INVALID, GUEST, 160), 1);
        sentence("BORE: as GUEST.");
        due("given 11", burnt(BORE, COLONEL, 179), 0);
        due("given 12", burnt(BORE, COLONEL, 180), 1);
        sentence("LOVER: as INVALID.");
        due("given 7", burnt(LOVER, GUEST, 159), 0);
        due("given 8", burnt(LOVER, GUEST, 160), 1);
        sentence("FAKE: as COLONEL, less 20.");
        due("told", Checks.told("fake").of(0, 6), 20);
        due("given 13, the most there is", burnt(FAKE, COLONEL, 200), 0);
        sentence("on it is burnt there: BURNT 1 more for each side");
        TanRow x = Checks.told("sun 0 9;invalid on 4;bore on 3;bore on 5");
        due("both sides", x.on(0, 1, 2), 2);
        x.sit(1, -1);
        due("one side", x.on(0, 1, 2), 1);
        x.sun(0, 0);
        due("no side", x.on(0, 1, 2), 0);
    }

    private static void anHour() {
        sentence("what is given to whom on which side is found out first, of all that sit");
        TanRow first = Checks.told("sun 0 9;guest brown 19 on 0;guest brown 20 on 1;guest brown 19 on 2");
        first.hours(1);
        due("by what it was, left", first.of(0, 3), 20);
        due("by what it was, the middle", first.of(1, 2) + first.of(1, 3), 40);
        due("by what it was, right", first.of(2, 2), 20);
        sentence("Then PEOPLE that sit by numbers");
        TanRow none = Checks.told("fake brown 50;fake brown 50 on 0");
        none.hours(100);
        due("one on none stays as it is", none.of(0, 2) + none.of(0, 3), 100);
        due("one that sits does not", none.of(1, 2) + none.of(1, 3), 0);
        sentence("it is what it TAKES more, what it FADES less (0 to 200 held, in all)");
        TanRow most = Checks.told("sun 0 9;invalid brown 200 on 4;guest brown 20 on 3");
        most.hours(1);
        due("200 and 2 less 1", most.of(0, 2), 200);
        due("200 less 1", most.of(0, 3), 199);
        TanRow least = Checks.told("sun 0 9;invalid brown 0 on 4;guest brown 20 on 3");
        least.hours(1);
        due("0 and 2 less 1", least.of(0, 2), 1);
        due("0 less 1", least.of(0, 3), 0);
        sentence("HOUR is 1 more.");
        due("an hour", least.now(0), 1);
        TanRow nobody = new TanRow();
        nobody.hours(1);
        due("with nobody there", nobody.now(0), 1);
    }

    private static void even() {
        sentence("EVEN: LEFT and RIGHT are 5 or less apart.");
        int[][] rows = {{0, 0, 1}, {0, 5, 1}, {5, 0, 1}, {0, 6, 0}, {6, 0, 0}, {195, 200, 1}, {200, 194, 0}, {0, 200, 0}};
        for (int[] r : rows) {
            TanRow x = Checks.told("guest");
            x.set(0, 2, r[0]);
            x.set(0, 3, r[1]);
            due(r[0] + " and " + r[1], x.now(4), r[2]);
        }
    }

    private static void onAndOn() {
        sentence("ON AND ON: n HOURS go on with all as it is; nothing changes.");
        Bounds.onlyTells("on", Bounds::row, x -> x.on(0, 200, 2));
        Bounds.onlyTells("brown", Bounds::row, x -> x.brown(0, 90));
        Bounds.onlyTells("burns", Bounds::row, x -> x.burns(0));
        Bounds.onlyTells("even", Bounds::row, x -> x.even(2));
        Bounds.refused("even, not found in all 200", Checks.NONE, x -> x.even(4));
        Bounds.onlyTells("where", Bounds::row, x -> x.where(0, 60));
        Bounds.onlyTells("change", Bounds::row, x -> x.change(0, 60));
        Bounds.onlyTells("kind", Bounds::row, x -> x.kind(0, 60));
        Bounds.onlyTells("send", Bounds::row, x -> x.send(60));
        Bounds.onlyTells("cloud", Bounds::row, x -> x.cloud(60));
        Bounds.onlyTells("enough", Bounds::row, x -> x.enough(1, 0, 60, 90));
        Bounds.onlyTells("brownest", Bounds::row, x -> x.brownest(200));
        Bounds.onlyTells("read", Bounds::row, x -> x.read(0, 0, 1));
        // One at 20 gives 1 in SUN 9 only: in places 0 and 3, and in them again 10 HOURS on.
        TanRow x = Checks.told("sun 0 9;guest brown 0 on 0;guest brown 20 on 1");
        due("once round", x.on(0, 10, 1), 2);
        due("place 0 again", x.on(0, 11, 1), 3);
        due("twenty times round", x.on(0, 200, 1) > x.on(0, 193, 1) ? 1 : 0, 1);
    }

    private static void sheets() {
        sentence("SHEETS 0 to 3 are rows of at most 40 numbers of 8, 16 or 64 bits, or MISSING (at first).");
        TanRow x = new TanRow();
        for (int s = 0; s < 4; s++) {
            due("missing at first", x.write(s, 0, 1), Checks.MISSING);
            due("at most 40", x.sheet(s, 64, 40), 40);
            due("the last", x.write(s, 39, 1), 0);
            due("no 41st", x.write(s, 40, 1), Checks.BEYOND);
            due("41 are too many", x.sheet(s, 64, 41), Checks.BEYOND);
        }
        due("no fifth", x.sheet(4, 8, 1), Checks.BEYOND);
        due("none below 0", x.sheet(-1, 8, 1), Checks.BEYOND);
    }
}
