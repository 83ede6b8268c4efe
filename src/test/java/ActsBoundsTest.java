/** The boundary cases of promises 1 to 23, each under the document's own words. */
public final class ActsBoundsTest {
    public static void main(String[] args) {
        promise1();
        promises2To4();
        promises5And6();
        promise7();
        promises8And9();
        promise10();
        promise11();
        promise12();
        promise13();
        promise14();
        promise15();
        promise16();
        promise17();
        promise18();
        promise19();
        promise20();
        promise21();
        promise22();
        promise23();
        Checks.end();
    }

    private static void sentence(String words) {
        Bounds.sentence(words);
    }

    private static void due(String what, long got, long want) {
        Bounds.due(what, got, want);
    }

    private static void promise1() {
        sentence("Nobody there; THE TAPE is empty, no image is kept.");
        TanRow x = new TanRow();
        due("nobody", x.count(0), 0);
        due("nobody 0", x.of(0, 0), Checks.BEYOND);
        due("nobody sits", x.now(3), 0);
        due("bytes", x.count(1), 0);
        due("nothing to wipe", x.wipe(), 0);
        due("an empty text", x.esplanade(), -1);
        due("no image", x.undo(), Checks.NONE);
        due("none to tear", x.tear(), 0);
        TanRow busy = Bounds.full();
        busy.sheet(0, 8, 1);
        TanRow other = new TanRow();
        due("another's people are not there", other.count(0), 0);
        due("another's bytes are not there", other.count(1), 0);
        due("another's image is not there", other.undo(), Checks.NONE);
        due("another's sheet is not there", other.lays(0), Checks.MISSING);
        due("another's findings are not there", other.status(-1), 2);
        due("and one's own stay", busy.count(0), 8);
    }

    private static void promises2To4() {
        sentence("SUN of a place (0 to 9) becomes v: what it was. BEYOND.");
        Bounds.range("place", 0, 9, (x, v) -> x.sun(v, 4));
        Bounds.range("v", 0, 9, (x, v) -> x.sun(4, v));
        TanRow y = new TanRow();
        due("place 9 to 0", y.sun(9, 0), 7);
        due("place 9 to 9", y.sun(9, 9), 0);
        due("place 9 to 9 again", y.sun(9, 9), 9);
        sentence("Who sits ON a CHAIR (-1: nobody). BEYOND.");
        Bounds.range("chair", 0, 9, (x, v) -> x.chair(v));
        TanRow ends = Checks.told("guest on 9;guest on 0");
        due("the first chair", ends.chair(0), 1);
        due("the last chair", ends.chair(9), 0);
        due("nobody", ends.chair(1), -1);
        sentence("What 0 HOUR, 1 its place, 2 SUN, 3 who sits, as a set, 4 who is EVEN, as a set, "
            + "5 BROWN of all together, 6 BURNT of all together. BEYOND.");
        Bounds.range("what", 0, 6, (x, v) -> x.now(v));
        TanRow full = new TanRow();
        for (int p = 0; p < 8; p++) {
            full.person(0);
            full.set(p, 2, 200);
            full.set(p, 3, 200);
            full.set(p, 4, 9999);
        }
        due("the most BROWN of all", full.now(5), 3200);
        due("the most BURNT of all", full.now(6), 79992);
        due("none sits, all are even", full.now(3) * 1000 + full.now(4), 255);
    }

    private static void promises5And6() {
        sentence("One more, ON none: the number. BEYOND: kind. FULL.");
        Bounds.range("kind", 0, 5, (x, v) -> x.person(v));
        Bounds.refusedIn(Bounds::full, "a ninth", Checks.FULL, x -> x.person(0));
        Bounds.refusedIn(Bounds::full, "a ninth of the last kind", Checks.FULL, x -> x.person(5));
        TanRow y = Bounds.row();
        for (int p = 5; p < 8; p++) {
            due("up to the eighth", y.person(0), p);
            due("on none", y.of(p, 1), -1);
        }
        due("no ninth", y.person(0), Checks.FULL);
        anewAfterUndo();
        sentence("Of one: what 0 KIND, 1 CHAIR (-1), 2 LEFT, 3 RIGHT, 4 BURNT, 5 FADES now, 6 BURNS, "
            + "7 who is to its LEFT, 8 to its RIGHT (-1: nobody, or it sits ON none). BEYOND.");
        Bounds.range("person", 0, 4, (x, v) -> x.of(v, 0));
        Bounds.range("what", 0, 8, (x, v) -> x.of(0, v));
        Bounds.refusedIn(Bounds::full, "no ninth to ask of", Checks.BEYOND, x -> x.of(8, 0));
        TanRow none = Checks.told("guest;guest on 0;guest on 9");
        due("no chair", none.of(0, 1), -1);
        due("on none, left", none.of(0, 7), -1);
        due("on none, right", none.of(0, 8), -1);
        due("left of the first chair", none.of(1, 7), -1);
        due("right of the last chair", none.of(2, 8), -1);
    }

    /** One more is new, though another of its number was there and is gone. */
    private static void anewAfterUndo() {
        TanRow x = new TanRow();
        x.image();
        x.person(5);
        x.sit(0, 4);
        x.set(0, 2, 99);
        x.set(0, 3, 99);
        x.set(0, 4, 99);
        x.undo();
        due("its number again", x.person(1), 0);
        int[] first = {1, -1, 20, 20, 0};
        for (int what = 0; what < 5; what++) {
            due("what " + what + " of it", x.of(0, what), first[what]);
        }
        due("its chair is free", x.chair(4), -1);
    }

    private static void promise7() {
        sentence("LEFT (what 2), RIGHT (3), BURNT (4) of one becomes v: what it was. BEYOND.");
        Bounds.range("person", 0, 4, (x, v) -> x.set(v, 2, 1));
        Bounds.range("what", 2, 4, (x, v) -> x.set(0, v, 1));
        Bounds.range("left", 0, 200, (x, v) -> x.set(0, 2, v));
        Bounds.range("right", 0, 200, (x, v) -> x.set(0, 3, v));
        Bounds.range("burnt", 0, 9999, (x, v) -> x.set(0, 4, v));
        TanRow y = Checks.told("guest");
        due("left", y.set(0, 2, 200), 20);
        due("left was the most", y.set(0, 2, 0), 200);
        due("left was the least", y.set(0, 2, 3), 0);
        due("right", y.set(0, 3, 200), 20);
        due("right was the most", y.set(0, 3, 0), 200);
        due("burnt above the most brown", y.set(0, 4, 201), 0);
        due("burnt to the most", y.set(0, 4, 9999), 201);
        due("burnt was the most", y.set(0, 4, 0), 9999);
    }

    private static void promises8And9() {
        sentence("One becomes one of another KIND: what it was. BEYOND.");
        Bounds.range("person", 0, 4, (x, v) -> x.turn(v, 3));
        Bounds.range("kind", 0, 5, (x, v) -> x.turn(0, v));
        TanRow y = Checks.told("guest");
        due("to the last kind", y.turn(0, 5), 0);
        due("to the same", y.turn(0, 5), 5);
        due("to the first", y.turn(0, 0), 5);
        sentence("BEYOND: no such one, kind.");
        Bounds.range("person", 0, 4, (x, v) -> x.as(v, 0));
        Bounds.refused("kind -1", Checks.BEYOND, x -> x.as(3, -1));
        Bounds.refused("kind 6", Checks.BEYOND, x -> x.as(3, 6));
        Bounds.refused("kind least", Checks.BEYOND, x -> x.as(3, Bounds.MIN));
        Bounds.refused("kind most", Checks.BEYOND, x -> x.as(3, Bounds.MAX));
        sentence("KIND: it isn't of that kind, nor of one under it.");
        Bounds.refused("a guest as a colonel, who is under it", Checks.KIND, x -> x.as(0, 1));
        Bounds.refused("a colonel as a fake", Checks.KIND, x -> x.as(1, 5));
        Bounds.refused("a lover as a colonel", Checks.KIND, x -> x.as(2, 1));
        Bounds.refused("a lover as a bore", Checks.KIND, x -> x.as(2, 3));
        Bounds.refused("a fake as an invalid", Checks.KIND, x -> x.as(3, 2));
        Bounds.refused("an invalid as a lover", Checks.KIND, x -> x.as(4, 4));
        due("a fake as itself", Bounds.row().as(3, 5), 40);
        due("a fake as what is above it", Bounds.row().as(3, 1), 40);
        due("a fake as what is above that", Bounds.row().as(3, 0), 40);
        TanRow brown = Checks.told("lover brown 200;bore brown 0");
        due("the most", brown.as(0, 2), 400);
        due("the least", brown.as(1, 0), 0);
    }

    private static void promise10() {
        sentence("One sits down ON a CHAIR (-1: goes): where it sat (-1). BEYOND.");
        Bounds.range("person", 0, 4, (x, v) -> x.sit(v, 1));
        Bounds.range("chair", -1, 9, (x, v) -> x.sit(0, v));
        TanRow y = Checks.told("guest;guest on 0");
        due("goes, from none", y.sit(0, -1), -1);
        due("to the last chair", y.sit(0, 9), -1);
        due("to its own chair", y.sit(0, 9), 9);
        due("still there", y.chair(9), 0);
        due("goes from the first chair", y.sit(1, -1), 0);
        due("to the first chair", y.sit(0, 0), 9);
        due("where it sat is free", y.sit(1, 9), -1);
        due("it sits on one chair alone", y.count(2), 2);
        sentence("STATE: another one sits there.");
        Bounds.refused("one that sits", Checks.STATE, x -> x.sit(0, 4));
        Bounds.refused("one on none", Checks.STATE, x -> x.sit(3, 3));
        Bounds.refusedIn(Bounds::full, "the first chair", Checks.STATE, x -> x.sit(7, 0));
        Bounds.refusedIn(Bounds::full, "the last chair", Checks.STATE, x -> x.sit(0, 9));
    }

    private static void promise11() {
        sentence("What is given to one in this HOUR on a side (0 LEFT, 1 RIGHT; 0: nothing, or it sits ON none). BEYOND.");
        Bounds.range("person", 0, 4, (x, v) -> x.given(v, 0));
        Bounds.range("side", 0, 1, (x, v) -> x.given(0, v));
        TanRow y = Checks.told("sun 0 9;sun 1 0;bore on 0;bore on 9;bore;bore on 1");
        due("nothing left of the first chair", y.given(0, 0), 0);
        due("right of the first chair", y.given(0, 1), 9);
        due("nothing right of the last chair", y.given(1, 1), 0);
        due("one on none, left", y.given(2, 0), 0);
        due("one on none, right", y.given(2, 1), 0);
        y.hours(1);
        due("in an HOUR without sun", y.given(0, 1), 0);
    }

    private static void promise12() {
        sentence("n HOURS go (1 to 100): BROWN of all together then. BEYOND.");
        Bounds.range("n", 1, 100, (x, v) -> x.hours(v));
        TanRow y = Checks.told("fake brown 200 on 0;fake brown 200");
        due("1", y.hours(1), 396 + 400);
        due("98", y.hours(98), 4 + 400);
        due("to 0", y.hours(1), 400);
        due("held at 0", y.hours(100), 400);
        due("hours", y.now(0), 200);
        due("with nobody there", new TanRow().hours(100), 0);
        sentence("STATE: HOUR would be above 99999.");
        // No object comes there by its 512th call; past it all is free, but here it is kept.
        TanRow late = new TanRow();
        for (int i = 0; i < 999; i++) {
            late.hours(100);
        }
        due("99900 and 100", late.hours(100), Checks.STATE);
        due("is as it was", late.now(0), 99900);
        due("99900 and 99", late.hours(99), 0);
        due("the last", late.now(0), 99999);
        due("99999 and 1", late.hours(1), Checks.STATE);
        due("it is counted", late.status(4), 2);
        due("BEYOND is asked first", late.hours(101), Checks.BEYOND);
    }

    private static void promise13() {
        sentence("LEFT (what 0), RIGHT (1), BURNT (2) of one n HOURS (0 to 200) ON AND ON. BEYOND.");
        Bounds.range("person", 0, 4, (x, v) -> x.on(v, 1, 0));
        Bounds.range("n", 0, 200, (x, v) -> x.on(0, v, 0));
        Bounds.range("what", 0, 2, (x, v) -> x.on(0, 1, v));
        TanRow y = Checks.told("invalid brown 200 on 0;fake brown 200");
        due("0 hours", y.on(0, 0, 0), 200);
        due("199 hours", y.on(0, 199, 1), 1);
        due("200 hours", y.on(0, 200, 1), 0);
        due("one on none", y.on(1, 200, 0), 200);
        due("burnt by nobody", y.on(0, 200, 2), 0);
    }

    /** SUN in the tenth HOUR of ten only: a bore gives 9 then, of which the colonel (1) takes 4. */
    private static TanRow sunInTheTenth(int leftOfTheColonel) {
        TanRow x = Checks.told("bore on 0;colonel on 1");
        for (int i = 0; i < 9; i++) {
            x.sun(i, 0);
        }
        x.sun(9, 9);
        x.set(1, 2, leftOfTheColonel);
        return x;
    }

    /** SUN in the first HOUR of ten only: one alone fades by 9 in ten HOURS, by 180 in 200. */
    private static TanRow alone(int left, int right) {
        TanRow x = Checks.told("bore on 0");
        for (int i = 1; i < 10; i++) {
            x.sun(i, 0);
        }
        x.sun(0, 9);
        x.set(0, 2, left);
        x.set(0, 3, right);
        return x;
    }

    private static void promise14() {
        sentence("In how many HOURS (0 to 200) BROWN of one is v (0 to 400) or more first. BEYOND. NONE.");
        Bounds.range("person", 0, 4, (x, v) -> x.brown(v, 0));
        for (int v : new int[] {-1, 401, Bounds.MIN, Bounds.MAX}) {
            Bounds.refused("v " + v, Checks.BEYOND, x -> x.brown(0, v));
        }
        due("the least v", Checks.told("guest brown 0").brown(0, 0), 0);
        due("the most v, at once", Checks.told("guest brown 200").brown(0, 400), 0);
        due("just v", Checks.told("guest").brown(0, 40), 0);
        Bounds.refusedIn(() -> Checks.told("guest"), "one more than v", Checks.NONE, x -> x.brown(0, 41));
        due("just before the sun", sunInTheTenth(104).brown(1, 125), 10);
        due("in the last hour", sunInTheTenth(104).brown(1, 204), 200);
        Bounds.refusedIn(() -> sunInTheTenth(104), "an hour too late", Checks.NONE, x -> x.brown(1, 205));
        due("before it fades", Checks.told("fake brown 200 on 0").brown(0, 400), 0);
    }

    private static void promise15() {
        sentence("In how many HOURS (1 to 200) one is BURNT more first. BEYOND. NONE.");
        for (int p : new int[] {-1, 5, Bounds.MIN, Bounds.MAX}) {
            Bounds.refused("person " + p, Checks.BEYOND, x -> x.burns(p));
        }
        Bounds.taken("person 0", Bounds.row(), x -> x.burns(0));
        Bounds.taken("person 4", Bounds.row(), x -> x.burns(4));
        Bounds.refused("one on none", Checks.NONE, x -> x.burns(3));
        TanRow y = Checks.told("sun 0 9;invalid on 0;bore on 1");
        due("in the first hour", y.burns(0), 1);
        y.set(0, 4, 9998);
        due("up to the most", y.burns(0), 1);
        Bounds.refusedIn(() -> burntMost(), "never more than the most", Checks.NONE, x -> x.burns(0));
        due("in the last hour", sunInTheTenth(104).burns(0), 200);
        Bounds.refusedIn(() -> sunInTheTenth(103), "an hour too late", Checks.NONE, x -> x.burns(0));
    }

    private static TanRow burntMost() {
        TanRow x = Checks.told("sun 0 9;invalid on 0;bore on 1");
        x.set(0, 4, 9999);
        return x;
    }

    private static void promise16() {
        sentence("In how many HOURS (0 to 200) one is EVEN first. BEYOND. NONE.");
        for (int p : new int[] {-1, 5, Bounds.MIN, Bounds.MAX}) {
            Bounds.refused("person " + p, Checks.BEYOND, x -> x.even(p));
        }
        due("5 apart, at once", alone(5, 0).even(0), 0);
        due("6 apart, in the first hour without sun", alone(6, 0).even(0), 2);
        due("in the last hour", alone(185, 0).even(0), 200);
        due("in the last hour, the other way round", alone(0, 185).even(0), 200);
        Bounds.refusedIn(() -> alone(186, 0), "an hour too late", Checks.NONE, x -> x.even(0));
        Bounds.refusedIn(() -> alone(0, 186), "an hour too late, the other way round", Checks.NONE, x -> x.even(0));
    }

    private static void promise17() {
        sentence("The CHAIR (with nobody else on it) ON which one had best sit now");
        TanRow x = Checks.told("sun 0 9;guest on 0;bore on 1;bore on 2;bore on 3;bore on 4;bore on 5;bore on 6;bore on 7");
        due("its own, of the three that are left", x.where(0, 1), 0);
        x.sit(7, 9);
        due("its own, of three alike", x.where(0, 1), 0);
        x.sit(6, 7);
        x.sit(0, -1);
        due("between two, from none", x.where(0, 1), 6);
        TanRow last = Checks.told("sun 0 9;guest;colonel brown 200 on 8;guest on 7");
        due("the last chair", last.where(0, 1), 9);
        TanRow first = Checks.told("sun 0 9;guest on 5;colonel brown 200 on 1;guest on 2");
        due("the first chair", first.where(0, 1), 0);
        sentence("so that it is BROWN most n HOURS (1 to 60) ON AND ON; of several the least. BEYOND.");
        Bounds.range("person", 0, 4, (r, v) -> r.where(v, 1));
        Bounds.range("n", 1, 60, (r, v) -> r.where(0, v));
        due("of all ten the least", Checks.told("guest on 9").where(0, 60), 0);
        due("though it is not brown at all", Checks.told("guest brown 0 on 9").where(0, 60), 0);
        due("of two the least", Checks.told("sun 0 9;guest;bore on 5").where(0, 1), 4);
        TanRow tenth = sunInTheTenth(20);
        tenth.sit(1, 9);
        due("no sun in nine hours: the least that is free", tenth.where(1, 9), 1);
        tenth.sit(0, 5);
        due("sun in the tenth", tenth.where(1, 10), 4);
    }

    private static void promise18() {
        sentence("With whom that sits one that sits had best change CHAIRS, so that BROWN of both together is most "
            + "n HOURS (1 to 60) ON AND ON; of several the least. BEYOND.");
        Bounds.range("person", 0, 4, (x, v) -> x.change(v, 1));
        Bounds.range("n", 1, 60, (x, v) -> x.change(0, v));
        TanRow y = Checks.told("guest on 0;guest on 2;guest on 4;colonel brown 200");
        due("of several the least", y.change(2, 1), 0);
        due("of several the least but oneself", y.change(0, 1), 1);
        y.sit(0, -1);
        due("the least that sits", y.change(2, 60), 1);
        y.sit(3, 9);
        due("the last", y.change(1, 1), 3);
        due("though neither is brown at all", Checks.told("guest brown 0 on 0;guest brown 0 on 9").change(0, 1), 1);
        Bounds.taken("with eight there", Bounds.full(), x -> x.change(0, 60));
        // The bore on the first chair gives to whoever comes to chair 1: 9 to a guest, 4 of it to the colonel.
        due("who takes most there", Checks.told("sun 0 9;bore brown 0 on 0;guest on 1;guest on 5;colonel brown 21 on 8")
            .change(1, 1), 2);
        due("what is given to one in the other's chair", Checks.told(
            "sun 0 9;guest on 0;guest on 5;bore brown 0 on 6;colonel brown 22 on 9").change(0, 1), 1);
        TanRow pair = Checks.told("sun 0 9;guest on 4;colonel on 9;guest on 5");
        pair.set(1, 3, 21);
        due("two beside each other still give each other", pair.change(0, 1), 2);
        TanRow dark = sunInTheTenth(20);
        dark.person(5);
        dark.sit(2, 5);
        dark.set(2, 2, 23);
        dark.set(2, 3, 23);
        due("the fake, who is browner for two hours", dark.change(1, 2), 2);
        due("as brown as the bore by the third: the least", dark.change(1, 3), 0);
        sentence("STATE: it sits ON none.");
        Bounds.refused("others sit", Checks.STATE, x -> x.change(3, 1));
        Bounds.refusedIn(() -> Checks.told("guest"), "alone", Checks.STATE, x -> x.change(0, 60));
        sentence("NONE: nobody else sits.");
        Bounds.refusedIn(() -> Checks.told("guest on 0"), "alone", Checks.NONE, x -> x.change(0, 60));
        Bounds.refusedIn(() -> Checks.told("guest;guest on 9;guest"), "others on none", Checks.NONE, x -> x.change(1, 1));
    }

    private static void promise19() {
        sentence("The KIND as one of which one is BROWN most n HOURS (1 to 60) ON AND ON; of several the least. BEYOND.");
        Bounds.range("person", 0, 4, (x, v) -> x.kind(v, 1));
        Bounds.range("n", 1, 60, (x, v) -> x.kind(0, v));
        due("on none all are alike: the least", Checks.told("fake").kind(0, 60), 0);
        due("without sun a colonel alone does not fade", Checks.told("fake on 0").kind(0, 1), 1);
        due("brown most already: all that do not fade, the least", Checks.told("sun 0 9;fake brown 200 on 0").kind(0, 1), 0);
        due("pale already: nobody fades below 0, the least", Checks.told("fake brown 0 on 0").kind(0, 1), 0);
    }

    private static void promise20() {
        sentence("Who, going away now, lets BURNT of all together be least n HOURS (1 to 60) ON AND ON; "
            + "of several the least. BEYOND.");
        Bounds.range("n", 1, 60, (x, v) -> x.send(v));
        due("nobody burns: the least that sits", Checks.told("guest;guest on 3;guest on 4").send(60), 1);
        due("the first of two", Checks.told("sun 0 9;invalid on 9;bore on 8").send(1), 0);
        due("the last", Checks.told("sun 0 9;invalid on 0;invalid on 2;bore on 1").send(1), 2);
        due("one alone", Checks.told("guest;guest on 9").send(60), 1);
        due("who goes is beside nobody, on the first chair neither",
            Checks.told("sun 0 9;invalid on 4;invalid on 6;colonel brown 200 on 5;invalid on 1").send(1), 2);
        Bounds.taken("with eight there", Bounds.full(), x -> x.send(60));
        sentence("NONE: nobody sits.");
        Bounds.refusedIn(Bounds::made, "nobody is there", Checks.NONE, x -> x.send(60));
        Bounds.refusedIn(() -> Checks.told("guest;bore"), "all on none", Checks.NONE, x -> x.send(1));
    }

    private static void promise21() {
        sentence("The place of SUN (0 to 9) that, 0, lets BROWN of all together be least n HOURS (1 to 60) ON AND ON; "
            + "of several the least. BEYOND.");
        Bounds.range("n", 1, 60, (x, v) -> x.cloud(v));
        due("nobody is there", new TanRow().cloud(60), 0);
        due("the last place", sunInTheTenth(20).cloud(10), 9);
        due("not in nine hours", sunInTheTenth(20).cloud(9), 0);
        due("in sixty", sunInTheTenth(20).cloud(60), 9);
        TanRow dark = Bounds.row();
        for (int i = 0; i < 10; i++) {
            dark.sun(i, 0);
        }
        due("no sun at all", dark.cloud(60), 0);
        TanRow bright = Checks.told("guest on 0;guest on 1");
        for (int i = 0; i < 10; i++) {
            bright.sun(i, 9);
        }
        bright.hours(7);
        due("all places alike, but the hours come to 7, 8, 9 only", bright.cloud(3), 7);
        due("and then to 0", bright.cloud(4), 0);
    }

    private static void promise22() {
        sentence("The least LEFT (0 to 200) of one now with which BROWN of another one is v (0 to 400) or more "
            + "n HOURS (1 to 60) ON AND ON.");
        Bounds.range("person", 0, 4, (x, v) -> x.enough(v, 1, 1, 0));
        Bounds.range("other", 0, 4, (x, v) -> x.enough(1, v, 1, 0));
        Bounds.range("n", 1, 60, (x, v) -> x.enough(1, 0, v, 0));
        for (int v : new int[] {-1, 401, Bounds.MIN, Bounds.MAX}) {
            Bounds.refused("v " + v, Checks.BEYOND, x -> x.enough(1, 0, 1, v));
        }
        due("the most v is there", Checks.told("guest;guest brown 200").enough(0, 1, 60, 400), 0);
        TanRow y = Checks.told("sun 0 9;sun 1 9;guest brown 200 on 1;guest on 0");
        due("the least", y.enough(0, 1, 1, 40), 0);
        due("one step", y.enough(0, 1, 1, 41), 20);
        due("the most", y.enough(0, 1, 1, 50), 200);
        due("one less, browned itself by then", y.enough(0, 1, 2, 41), 19);
        due("it stays as brown as it is", y.of(0, 2), 200);
        sentence("BEYOND: also one and the same.");
        for (int p = 0; p < 5; p++) {
            int same = p;
            Bounds.refused("the same " + p, Checks.BEYOND, x -> x.enough(same, same, 1, 0));
        }
        sentence("or more n HOURS (1 to 60) ON AND ON. BEYOND: also one and the same. NONE.");
        Bounds.refusedIn(() -> Checks.told("sun 0 9;guest on 1;guest on 0"), "one more than the most gives", Checks.NONE,
            x -> x.enough(0, 1, 1, 51));
        Bounds.refusedIn(() -> Checks.told("sun 0 9;guest;guest on 0"), "from none nothing is given", Checks.NONE,
            x -> x.enough(0, 1, 1, 41));
    }

    private static void promise23() {
        sentence("Who is BROWN most n HOURS (0 to 200) ON AND ON; of several the least. BEYOND.");
        Bounds.range("n", 0, 200, (x, v) -> x.brownest(v));
        due("of several the least", Checks.told("guest;guest;guest").brownest(200), 0);
        due("the last", Checks.told("guest;guest;guest brown 21").brownest(0), 2);
        due("all at 0", Checks.told("bore brown 0;guest brown 0").brownest(0), 0);
        TanRow x = sunInTheTenth(104);
        x.person(0);
        x.set(2, 2, 103);
        x.set(2, 3, 100);
        due("not by the last hour but one", x.brownest(199), 2);
        due("in the last hour", x.brownest(200), 1);
        sentence("NONE: nobody is there.");
        Bounds.refusedIn(Bounds::made, "now", Checks.NONE, r -> r.brownest(0));
        Bounds.refusedIn(Bounds::made, "in 200", Checks.NONE, r -> r.brownest(200));
        due("one on none is there", Checks.told("bore brown 0").brownest(200), 0);
    }
}
