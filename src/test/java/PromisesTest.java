/** Each promise of the document, worked out by hand: ordinary inputs, edges, wrong inputs. */
public final class PromisesTest {
    private static final int MIN = Integer.MIN_VALUE;
    private static final int MAX = Integer.MAX_VALUE;

    public static void main(String[] args) {
        esplanadeCalls();
        peopleCalls();
        kindsInAnHour();
        hourCalls();
        bestCalls();
        textCalls();
        sheetCalls();
        imageCalls();
        Checks.end();
    }

    private static void due(String call, long got, long want) {
        Checks.due(call, got, want);
    }

    private static void beyond(String call, long got) {
        Checks.due(call, got, Checks.BEYOND);
    }

    private static void esplanadeCalls() {
        promise1();
        promise2();
        promise3();
        promise4();
    }

    private static void promise1() {
        TanRow x = new TanRow();
        due("1 people", x.count(0), 0);
        due("1 tape", x.count(1), 0);
        due("1 sitting", x.count(2), 0);
        due("1 sun of all", x.count(3), 45);
        for (int what = 0; what <= 6; what++) {
            due("1 now " + what, x.now(what), 0);
        }
        int[] sun = {0, 3, 6, 9, 2, 5, 8, 1, 4, 7};
        for (int i = 0; i < 10; i++) {
            due("1 chair " + i, x.chair(i), -1);
            due("1 sun " + i, x.sun(i, sun[i]), sun[i]);
        }
        due("1 no finding yet", x.status(-1), 0);
        for (int s = 0; s < 4; s++) {
            due("1 sheet " + s, x.write(s, 0, 0), Checks.MISSING);
        }
        due("1 nothing kept", x.undo(), Checks.NONE);
        due("1 nothing to tear", x.tear(), 0);
    }

    private static void promise2() {
        TanRow x = new TanRow();
        due("2 sun", x.sun(0, 9), 0);
        due("2 sun again", x.sun(0, 4), 9);
        due("2 sun of the last", x.sun(9, 0), 7);
        int[][] wrong = {{-1, 0}, {10, 0}, {0, -1}, {0, 10}, {MIN, MAX}, {MAX, MIN}};
        for (int[] w : wrong) {
            beyond("2 sun " + w[0] + " " + w[1], x.sun(w[0], w[1]));
        }
        due("2 sun stays", x.count(3), 45 + 4 - 7);
        due("2 counted", x.status(0), wrong.length);
    }

    private static void promise3() {
        TanRow x = Checks.told("guest on 9;bore;guest on 0");
        due("3 first chair", x.chair(0), 2);
        due("3 last chair", x.chair(9), 0);
        due("3 nobody", x.chair(5), -1);
        x.sit(0, -1);
        due("3 left", x.chair(9), -1);
        beyond("3 chair 10", x.chair(10));
        beyond("3 chair -1", x.chair(-1));
        beyond("3 chair least", x.chair(MIN));
    }

    private static void promise4() {
        TanRow x = Checks.told("guest on 3;bore brown 7;colonel on 5");
        x.set(0, 2, 25);
        x.set(2, 3, 26);
        x.set(0, 4, 1);
        x.set(1, 4, 9);
        x.set(2, 4, 3);
        due("4 who sits", x.now(3), 5);
        due("4 who is even, sitting or not", x.now(4), 3);
        due("4 brown of all", x.now(5), 45 + 14 + 46);
        due("4 burnt of all", x.now(6), 13);
        x.hours(13);
        due("4 hour", x.now(0), 13);
        due("4 place", x.now(1), 3);
        due("4 sun", x.now(2), 9);
        beyond("4 what 7", x.now(7));
        beyond("4 what -1", x.now(-1));
    }

    private static void peopleCalls() {
        promises5And6();
        promise7();
        promises8And9();
        promise10();
        promise11();
    }

    private static void promises5And6() {
        TanRow x = new TanRow();
        beyond("5 kind -1", x.person(-1));
        beyond("5 kind 6", x.person(6));
        for (int i = 0; i < 8; i++) {
            due("5 person", x.person(i % 6), i);
        }
        due("5 a ninth", x.person(0), Checks.FULL);
        beyond("5 a ninth of no kind", x.person(6));
        int[] fades = {1, 0, 1, 1, 1, 2};
        int[] burns = {12, 40, 8, 12, 8, 20};
        int[] fadesInSun = {0, 0, 1, 0, 1, 2};
        for (int k = 0; k < 6; k++) {
            int[] first = {k, -1, 20, 20, 0, fades[k], burns[k], -1, -1};
            for (int what = 0; what < 9; what++) {
                due("6 kind " + k + " what " + what, x.of(k, what), first[what]);
            }
        }
        x.hours(1);
        for (int k = 0; k < 6; k++) {
            due("6 fades in sun " + k, x.of(k, 5), fadesInSun[k]);
        }
        promise6Neighbours(x);
    }

    private static void promise6Neighbours(TanRow x) {
        x.sit(4, 0);
        x.sit(1, 1);
        x.sit(2, 9);
        x.sit(3, 8);
        due("6 nobody left of chair 0", x.of(4, 7), -1);
        due("6 right of chair 0", x.of(4, 8), 1);
        due("6 left", x.of(1, 7), 4);
        due("6 nobody right", x.of(1, 8), -1);
        due("6 nobody right of chair 9", x.of(2, 8), -1);
        due("6 left of chair 9", x.of(2, 7), 3);
        due("6 right of chair 8", x.of(3, 8), 2);
        due("6 one that sits on none, chair 0 taken", x.of(5, 8), -1);
        due("6 a lover with one neighbour", x.of(4, 5), 1);
        x.sit(4, 2);
        due("6 a lover with one neighbour, left", x.of(4, 5), 1);
        x.sit(0, 3);
        due("6 a lover with both", x.of(4, 5), 0);
        due("6 chair", x.of(4, 1), 2);
        x.sit(1, 7);
        x.sit(0, 1);
        x.sit(1, 3);
        due("6 a lover with both, the other way round", x.of(4, 5), 0);
        beyond("6 person -1", x.of(-1, 0));
        beyond("6 person 8", x.of(8, 0));
        beyond("6 what -1", x.of(0, -1));
        beyond("6 what 9", x.of(0, 9));
    }

    private static void promise7() {
        TanRow x = Checks.told("guest");
        due("7 left", x.set(0, 2, 200), 20);
        due("7 right", x.set(0, 3, 0), 20);
        due("7 burnt", x.set(0, 4, 9999), 0);
        due("7 left is", x.of(0, 2), 200);
        due("7 right is", x.of(0, 3), 0);
        due("7 burnt is", x.set(0, 4, 201), 9999);
        int[][] wrong = {{-1, 2, 0}, {1, 2, 0}, {0, 1, 0}, {0, 5, 0}, {0, 2, -1}, {0, 2, 201},
            {0, 3, -1}, {0, 3, 201}, {0, 4, -1}, {0, 4, 10000}};
        for (int[] w : wrong) {
            beyond("7 set " + w[0] + " " + w[1] + " " + w[2], x.set(w[0], w[1], w[2]));
        }
        due("7 left stays", x.of(0, 2), 200);
        due("7 right stays", x.of(0, 3), 0);
        due("7 burnt stays", x.of(0, 4), 201);
    }

    private static void promises8And9() {
        TanRow x = Checks.told("guest brown 30");
        x.set(0, 2, 15);
        boolean[][] is = {
            {true, false, false, false, false, false}, {true, true, false, false, false, false},
            {true, false, true, false, false, false}, {true, false, false, true, false, false},
            {true, false, true, false, true, false}, {true, true, false, false, false, true}};
        int was = 0;
        for (int k = 0; k < 6; k++) {
            due("8 turn", x.turn(0, k), was);
            due("8 kind", x.of(0, 0), k);
            was = k;
            for (int as = 0; as < 6; as++) {
                due("9 as " + k + " " + as, x.as(0, as), is[k][as] ? 45 : Checks.KIND);
            }
        }
        int[][] wrong = {{-1, 0}, {1, 0}, {0, -1}, {0, 6}};
        for (int[] w : wrong) {
            beyond("8 turn " + w[0] + " " + w[1], x.turn(w[0], w[1]));
            beyond("9 as " + w[0] + " " + w[1], x.as(w[0], w[1]));
        }
        due("8 kind stays", x.of(0, 0), 5);
    }

    private static void promise10() {
        TanRow x = Checks.told("guest;guest");
        due("10 sits", x.sit(0, 0), -1);
        due("10 moves", x.sit(0, 9), 0);
        due("10 where it sat is free", x.sit(1, 0), -1);
        due("10 taken", x.sit(1, 9), Checks.STATE);
        due("10 the first chair is taken", x.sit(0, 0), Checks.STATE);
        due("10 its own", x.sit(1, 0), 0);
        due("10 goes", x.sit(1, -1), 0);
        due("10 goes again", x.sit(1, -1), -1);
        due("10 nobody there", x.chair(0), -1);
        int[][] wrong = {{-1, 0}, {2, 9}, {0, -2}, {0, 10}, {MAX, 9}, {0, MIN}};
        for (int[] w : wrong) {
            beyond("10 sit " + w[0] + " " + w[1], x.sit(w[0], w[1]));
        }
        due("10 stays", x.of(0, 1), 9);
        due("10 who sits", x.count(2), 1);
    }

    private static void promise11() {
        TanRow x = Checks.told("sun 0 9;guest on 4;colonel brown 200 on 3;bore on 5;guest");
        x.set(1, 2, 0);
        due("11 by its right", x.given(0, 0), 13);
        due("11 a bore", x.given(0, 1), 9);
        due("11 nobody", x.given(1, 0), 0);
        due("11 by its left", x.given(1, 1), 1);
        due("11 sits on none", x.given(3, 0), 0);
        x.sun(0, 0);
        due("11 no sun, colonel", x.given(0, 0), 0);
        due("11 no sun, bore", x.given(0, 1), 0);
        beyond("11 side -1", x.given(0, -1));
        beyond("11 side 2", x.given(0, 2));
        beyond("11 person -1", x.given(-1, 0));
        beyond("11 person 4", x.given(4, 0));
    }

    /** A pair for one HOUR: what each kind gives, and what each kind makes of what it is given. */
    private static void kindsInAnHour() {
        int[] sunFive = {5, 8, 2, 9, 2, 4};
        int[] pale = {0, 3, 0, 9, 0, 0};
        for (int k = 0; k < 6; k++) {
            TanRow x = Checks.told("sun 0 5;guest on 1;guest on 2");
            x.turn(1, k);
            x.set(1, 2, 199);
            due("glow of kind " + k, x.given(0, 1), sunFive[k]);
            x.set(1, 2, 19);
            due("pale glow of kind " + k, x.given(0, 1), pale[k]);
        }
        TanRow lovers = Checks.told("sun 0 5;lover on 1;lover brown 199 on 2");
        due("a lover to a lover", lovers.given(0, 1), 4);
        lovers.turn(0, 2);
        due("a lover to an invalid", lovers.given(0, 1), 2);
        int[] takesThirteen = {13, 6, 14, 0, 14, 8};
        int[] fades = {0, 0, 1, 0, 1, 2};
        int[] burnt = {1, 0, 1, 1, 1, 0};
        for (int k = 0; k < 6; k++) {
            TanRow x = Checks.told("sun 0 9;guest brown 50 on 1;colonel brown 200 on 2");
            x.turn(0, k);
            x.hours(1);
            due("taken by kind " + k, x.of(0, 3), 50 + takesThirteen[k] - fades[k]);
            due("nothing given to kind " + k, x.of(0, 2), 50 - fades[k]);
            due("burnt of kind " + k, x.of(0, 4), burnt[k]);
        }
        edgesOfAnHour();
    }

    private static void edgesOfAnHour() {
        TanRow x = Checks.told("sun 0 9;guest brown 195 on 4;colonel brown 180 on 3;colonel brown 160 on 5;fake brown 1");
        x.set(0, 4, 9998);
        x.sit(3, 9);
        x.hours(1);
        due("held to 200", x.of(0, 2), 200);
        due("held to 200, right", x.of(0, 3), 200);
        due("burnt by 12, not by 11", x.of(0, 4), 9999);
        due("held to 0", x.of(3, 2), 0);
        x.set(0, 2, 0);
        x.set(1, 3, 200);
        x.hours(1);
        due("burnt is held", x.of(0, 4), 9999);
        TanRow both = Checks.told("sun 0 9;guest on 4;colonel brown 180 on 3;colonel brown 180 on 5");
        both.hours(1);
        due("burnt once for each side", both.of(0, 4), 2);
        TanRow held = Checks.told("sun 0 9;invalid brown 200 on 4;guest brown 20 on 3");
        held.hours(1);
        due("held in all, not before it fades", held.of(0, 2), 200);
        TanRow first = Checks.told("sun 0 9;guest brown 19 on 0;guest brown 20 on 1;guest brown 19 on 2");
        first.hours(1);
        due("given is found out first", first.of(0, 3), 20);
        due("given is found out first, of all", first.of(1, 2), 20);
        due("given is found out first, at the end", first.of(2, 2), 20);
        TanRow none = Checks.told("fake brown 50");
        none.hours(1);
        due("one that sits on none stays as it is", none.of(0, 2), 50);
    }

    private static void hourCalls() {
        promise12();
        promise13();
        promises14To16();
    }

    private static void promise12() {
        TanRow x = Checks.told("guest on 0;fake brown 200 on 5");
        due("12 an hour", x.hours(1), 38 + 396);
        due("12 nine more", x.hours(9), 38 + 360);
        due("12 hour", x.now(0), 10);
        beyond("12 none", x.hours(0));
        beyond("12 too many", x.hours(101));
        beyond("12 below", x.hours(MIN));
        due("12 hour stays", x.now(0), 10);
        due("12 a hundred", x.hours(100), 38 - 2 * 10 + 0);
        // Past its 512th call an object is free, but only there is the last HOUR.
        TanRow late = new TanRow();
        for (int i = 0; i < 999; i++) {
            late.hours(100);
        }
        due("12 above the last", late.hours(100), Checks.STATE);
        due("12 to the last", late.hours(99), 0);
        due("12 the last", late.now(0), 99999);
        due("12 beyond the last", late.hours(1), Checks.STATE);
        beyond("12 beyond is asked first", late.hours(101));
    }

    private static void promise13() {
        TanRow x = Checks.told("sun 0 9;sun 1 9;sun 2 9;invalid on 0;colonel brown 180 on 1");
        due("13 now, right", x.on(0, 0, 1), 20);
        due("13 in 1, right", x.on(0, 1, 1), 32);
        due("13 in 3, right", x.on(0, 3, 1), 56);
        due("13 in 3, left", x.on(0, 3, 0), 17);
        due("13 in 3, burnt", x.on(0, 3, 2), 3);
        due("13 in 200, left", x.on(0, 200, 0), 0);
        due("13 nothing changes", x.now(0), 0);
        due("13 nor how brown", x.of(0, 3), 20);
        int[][] wrong = {{-1, 0, 0}, {2, 0, 0}, {0, -1, 0}, {0, 201, 0}, {0, 0, -1}, {0, 0, 3}};
        for (int[] w : wrong) {
            beyond("13 on " + w[0] + " " + w[1] + " " + w[2], x.on(w[0], w[1], w[2]));
        }
    }

    private static void promises14To16() {
        TanRow x = Checks.told("sun 0 9;sun 1 9;sun 2 9;guest on 0;colonel brown 160 on 1");
        due("14 already", x.brown(0, 40), 0);
        due("14 in 1", x.brown(0, 41), 1);
        due("14 in 1, just so", x.brown(0, 51), 1);
        due("14 in 2", x.brown(0, 52), 2);
        due("14 never", x.brown(0, 400), Checks.NONE);
        due("14 none at all", x.brown(0, 0), 0);
        beyond("14 v -1", x.brown(0, -1));
        beyond("14 v 401", x.brown(0, 401));
        beyond("14 person -1", x.brown(-1, 0));
        beyond("14 person 2", x.brown(2, 0));
        due("16 already", x.even(0), 0);
        x.set(0, 3, 0);
        x.sun(3, 9);
        due("16 in 2", x.even(0), 2);
        x.set(0, 2, 200);
        x.turn(1, 3);
        due("15 never", x.burns(0), Checks.NONE);
        x.turn(1, 1);
        x.set(1, 2, 180);
        x.sun(0, 0);
        due("15 in the second hour", x.burns(0), 2);
        x.set(0, 4, 9999);
        due("15 held, never more", x.burns(0), Checks.NONE);
        beyond("15 person -1", x.burns(-1));
        beyond("15 person 2", x.burns(2));
        beyond("16 person -1", x.even(-1));
        beyond("16 person 2", x.even(2));
        lastHourCounts();
    }

    /** Sun in the tenth hour only: a bore gives 9 then, of which a colonel takes 4. */
    private static void lastHourCounts() {
        TanRow x = new TanRow();
        for (int i = 0; i < 9; i++) {
            x.sun(i, 0);
        }
        x.sun(9, 9);
        x.person(3);
        x.person(1);
        x.sit(0, 0);
        x.sit(1, 1);
        x.set(1, 2, 104);
        due("13 not in the ninth hour", x.on(1, 9, 0), 104);
        due("13 in the tenth hour", x.on(1, 10, 0), 108);
        due("13 in the last hour", x.on(1, 200, 0), 184);
        due("14 in the last hour", x.brown(1, 204), 200);
        due("14 not by then", x.brown(1, 205), Checks.NONE);
        due("15 in the last hour", x.burns(0), 200);
        x.set(1, 2, 103);
        due("15 not by then", x.burns(0), Checks.NONE);
        evenInTheLastHour(x);
    }

    /** Sun in the first hour of ten only: one alone fades by 180 in 200 hours. */
    private static void evenInTheLastHour(TanRow x) {
        x.sit(1, -1);
        x.sun(9, 0);
        x.sun(0, 9);
        x.set(0, 2, 185);
        x.set(0, 3, 0);
        due("16 in the last hour", x.even(0), 200);
        x.set(0, 2, 186);
        due("16 not by then", x.even(0), Checks.NONE);
        x.set(0, 2, 0);
        x.set(0, 3, 185);
        due("16 in the last hour, the other way round", x.even(0), 200);
    }

    private static void bestCalls() {
        promise17();
        promise18();
        promise19();
        promise20();
        promise21();
        promise22();
        promise23();
    }

    private static void promise17() {
        TanRow x = Checks.told("sun 0 9;guest;colonel brown 180 on 5;guest brown 180 on 7");
        due("17 between both", x.where(0, 1), 6);
        x.sit(2, -1);
        due("17 of several the least", x.where(0, 1), 4);
        x.sit(0, 6);
        due("17 its own chair is free for it", x.where(0, 1), 4);
        x.sit(2, 4);
        due("17 its own chair is best", x.where(0, 1), 6);
        due("17 nothing changes", x.of(0, 1), 6);
        x.sit(1, -1);
        x.sit(2, -1);
        due("17 alone", x.where(0, 60), 0);
        beyond("17 n 0", x.where(0, 0));
        beyond("17 n 61", x.where(0, 61));
        beyond("17 person -1", x.where(-1, 1));
        beyond("17 person 3", x.where(3, 1));
    }

    private static void promise18() {
        TanRow x = Checks.told("sun 0 9;guest on 0;guest on 5;guest on 6;bore on 7;guest");
        due("18 the one between", x.change(0, 1), 2);
        due("18 the one that a bore is then beside", x.change(3, 1), 2);
        TanRow beside = Checks.told("sun 0 9;bore on 0;guest on 1;guest on 2;guest on 9;invalid on 5;guest;guest;guest");
        due("18 those that change are beside each other", beside.change(1, 1), 2);
        due("18 one gets what the other had", beside.change(2, 1), 1);
        due("18 from afar", beside.change(3, 2), 1);
        TanRow bores = Checks.told("sun 0 9;bore on 4;colonel on 0;guest on 9;bore on 3;bore on 5");
        due("18 who takes most in one's chair", bores.change(0, 1), 2);
        TanRow pair = Checks.told("sun 0 9;guest on 4;bore on 5;guest on 9");
        due("18 they still give each other", pair.change(0, 1), 1);
        due("18 nothing changes", x.of(0, 1), 0);
        due("18 nor for the other", x.of(2, 1), 6);
        due("18 sits on none", x.change(4, 1), Checks.STATE);
        beyond("18 n 0", x.change(4, 0));
        beyond("18 n 61", x.change(4, 61));
        beyond("18 person -1", x.change(-1, 1));
        beyond("18 person 5", x.change(5, 1));
        for (int p = 1; p < 4; p++) {
            x.sit(p, -1);
        }
        due("18 nobody else", x.change(0, 60), Checks.NONE);
        due("18 sits on none comes first", x.change(1, 60), Checks.STATE);
        TanRow apart = Checks.told("guest on 0;guest on 2;guest on 4;colonel brown 200");
        due("18 of several the least", apart.change(2, 1), 0);
        due("18 of several the least but oneself", apart.change(0, 1), 1);
        apart.sit(3, 9);
        due("18 both together, how brown they are counts", apart.change(0, 1), 3);
    }

    private static void promise19() {
        TanRow x = Checks.told("sun 0 9;bore on 1;colonel brown 180 on 2;colonel brown 180 on 0");
        due("19 a lover between both takes most", x.kind(0, 1), 4);
        x.sit(2, -1);
        due("19 a guest beside one", x.kind(0, 1), 0);
        due("19 nothing changes", x.of(0, 0), 3);
        x.sit(1, -1);
        due("19 of several the least", x.kind(0, 1), 0);
        x.sun(0, 0);
        due("19 a colonel does not fade", x.kind(0, 1), 1);
        beyond("19 n 0", x.kind(0, 0));
        beyond("19 n 61", x.kind(0, 61));
        beyond("19 person -1", x.kind(-1, 1));
        beyond("19 person 3", x.kind(3, 1));
    }

    private static void promise20() {
        TanRow x = new TanRow();
        due("20 nobody there", x.send(1), Checks.NONE);
        beyond("20 n is asked first", x.send(0));
        beyond("20 n 61", x.send(61));
        TanRow y = Checks.told("sun 0 9;guest;guest on 1;guest brown 20 on 2;colonel brown 200 on 3;guest on 4");
        due("20 who burns two", y.send(1), 3);
        due("20 nothing changes", y.of(3, 1), 3);
        y.sit(4, -1);
        due("20 of several the least", y.send(1), 2);
        TanRow all = Checks.told("sun 0 9;colonel brown 200 on 0;guest on 1;guest on 2;guest on 3;guest on 4;guest on 5");
        all.person(0);
        all.person(0);
        due("20 the first of all", all.send(60), 0);
        y.sun(0, 0);
        due("20 nobody burns", y.send(1), 1);
        due("20 in four hours", y.send(4), 2);
    }

    private static void promise21() {
        TanRow x = new TanRow();
        due("21 nobody there", x.cloud(60), 0);
        beyond("21 n 0", x.cloud(0));
        beyond("21 n 61", x.cloud(61));
        TanRow y = Checks.told("guest brown 200 on 1;guest brown 0 on 2");
        due("21 an hour ago", y.cloud(1), 0);
        due("21 the sun of place 3", y.cloud(4), 3);
        due("21 nothing changes", y.sun(3, 9), 9);
        y.sun(3, 8);
        y.sun(6, 8);
        due("21 of several the least", y.cloud(10), 3);
        y.hours(5);
        due("21 from now on", y.cloud(5), 6);
    }

    private static void promise22() {
        TanRow x = Checks.told("sun 0 9;guest brown 7 on 1;guest brown 0 on 0;guest");
        due("22 none is wanted", x.enough(0, 1, 1, 0), 0);
        due("22 one more", x.enough(0, 1, 1, 1), 20);
        due("22 all", x.enough(0, 1, 1, 10), 200);
        due("22 more than can be", x.enough(0, 1, 1, 11), Checks.NONE);
        due("22 nine", x.enough(0, 1, 1, 9), 180);
        due("22 nothing changes", x.of(0, 2), 7);
        due("22 the other way it is the right", x.enough(1, 0, 1, 15), Checks.NONE);
        due("22 it is enough", x.enough(1, 0, 1, 14), 0);
        int[][] wrong = {{-1, 0, 1, 0}, {3, 0, 1, 0}, {0, -1, 1, 0}, {0, 3, 1, 0}, {1, 1, 1, 0},
            {0, 1, 0, 0}, {0, 1, 61, 0}, {0, 1, 1, -1}, {0, 1, 1, 401}};
        for (int[] w : wrong) {
            beyond("22 enough " + w[0] + " " + w[1] + " " + w[2] + " " + w[3], x.enough(w[0], w[1], w[2], w[3]));
        }
    }

    private static void promise23() {
        TanRow x = new TanRow();
        due("23 nobody", x.brownest(0), Checks.NONE);
        beyond("23 n -1", x.brownest(-1));
        beyond("23 n 201", x.brownest(201));
        TanRow y = Checks.told("fake brown 30 on 0;guest brown 20;guest brown 20");
        due("23 now", y.brownest(0), 0);
        due("23 in 4", y.brownest(4), 0);
        due("23 in 5, the least of two", y.brownest(5), 0);
        due("23 in 6", y.brownest(6), 1);
        due("23 in 200", y.brownest(200), 1);
        due("23 nothing changes", y.now(0), 0);
    }

    private static void textCalls() {
        promises24And25();
        promise26();
        faults();
    }

    private static void promises24And25() {
        TanRow x = new TanRow();
        beyond("24 n 0", x.feed(0, 0));
        beyond("24 n 5", x.feed(0, 5));
        beyond("24 n least", x.feed(0, MIN));
        due("24 two of four bytes", x.feed(0x7A7A626F, 2), 2);
        due("24 one", x.feed(0x72, 1), 3);
        due("24 one", x.feed('e', 1), 4);
        due("24 counted", x.count(1), 4);
        due("24 in order", x.esplanade(), 1);
        due("24 a bore", x.of(0, 0), 3);
        for (int i = 1; i <= 29; i++) {
            due("24 four", x.feed(0x20202020, 4), 4 * i);
        }
        due("24 three more", x.feed(0x202020, 3), 119);
        due("24 two too many", x.feed(0x2020, 2), Checks.FULL);
        due("24 still", x.count(1), 119);
        due("24 the last", x.feed(0x20, 1), 120);
        due("24 full", x.feed(0x20, 1), Checks.FULL);
        beyond("24 n is asked first", x.feed(0x20, 5));
        due("25 wiped", x.wipe(), 120);
        due("25 empty", x.wipe(), 0);
        due("25 counted", x.count(1), 0);
        x.feed(-1, 4);
        due("24 bytes are 255", x.esplanade(), -1);
    }

    private static void promise26() {
        TanRow x = new TanRow();
        Checks.fed(x, "  guest;colonel brown 0;invalid on 9 ;bore brown 200on 0;lover;fake;sun 0 9;goes 2;sun 9 0  ");
        due("26 items", x.esplanade(), 9);
        due("26 empty then", x.count(1), 0);
        due("26 people", x.count(0), 6);
        int[] browns = {20, 0, 20, 200, 20, 20};
        for (int p = 0; p < 6; p++) {
            due("26 kind", x.of(p, 0), p);
            due("26 left", x.of(p, 2), browns[p]);
            due("26 right", x.of(p, 3), browns[p]);
            due("26 chair", x.of(p, 1), p == 3 ? 0 : -1);
        }
        due("26 sun of 0", x.sun(0, 9), 9);
        due("26 sun of 9", x.sun(9, 0), 0);
        Checks.fed(x, "guest on 9;goes 6;guest on 9;goes 0;goes 3");
        due("26 a chair that is free by then", x.esplanade(), 5);
        due("26 who sits", x.now(3), 128);
        due("26 no finding", x.status(-1), 0);
        Checks.fed(x, "sun0007 0000000000000000000000009");
        due("26 noughts ahead", x.esplanade(), 1);
        due("26 people stay", x.count(0), 8);
        due("26 sun of 7", x.sun(7, 9), 9);
    }

    private static void faults() {
        String[] texts = {"", "   ", ";", "guest;", "guest; ", "guest brown", "guest on", "guest on 10",
            "guest on1on 2", "guest brown 201", "guest brown 1000", "guest brown 99999999999999999999",
            "guest brown 4294967296", "guest brown brown 3", "guest 3", "guest on 2 brown 3", "guests",
            "Guest", "guestbrown 3", "guest guest", "guest\tbrown 3", "sun", "sun 1", "sun 10 3", "sun 1 10",
            "sun 12", "sun12", "sun a 1", "sun 1 2 3", "sun 1;2", "goes", "goes 0", "goes 0;guest", "guest;goes 1",
            "guest;;guest", "guest on 2;bore on 2", "guest;#", "5", "brown 3", "on 3", "guest on 3 ;", "guest brown -3",
            "guest brown 12x", "guestz", "xuest", "guest{", "`", "/", ":", "guest on 3;goes 0;sun 3 3;guest on 3 x"};
        int[] places = {0, 3, 0, 6, 7, 11, 8, 9,
            9, 12, 12, 12,
            12, 12, 6, 11, 0,
            0, 0, 6, 5, 3, 5, 4, 6,
            4, 3, 4, 8, 5, 4, 5, 5, 11,
            6, 19, 6, 0, 0, 0, 12, 12,
            14, 0, 0, 5, 0, 0, 0, 37};
        for (int i = 0; i < texts.length; i++) {
            TanRow x = Checks.fed(new TanRow(), texts[i]);
            due("26 fault of \"" + texts[i] + "\"", x.esplanade(), -1 - places[i]);
            due("26 nobody came by \"" + texts[i] + "\"", x.count(0), 0);
            due("26 nobody sits by \"" + texts[i] + "\"", x.chair(3), -1);
            due("26 no sun came by \"" + texts[i] + "\"", x.count(3), 45);
            due("26 tape of \"" + texts[i] + "\" is empty", x.count(1), 0);
            due("26 no finding by \"" + texts[i] + "\"", x.status(-1), 0);
        }
        whatStoodBehind();
        TanRow full = Checks.told("fake;fake;fake;fake;fake;fake;fake;fake;goes 7");
        Checks.fed(full, "sun 0 9; bore brown 201");
        due("26 a ninth", full.esplanade(), -10);
        due("26 no sun came", full.now(2), 0);
        Checks.fed(full, "goes 8");
        due("26 goes a ninth", full.esplanade(), -6);
    }

    /** A text is read to its own end, whatever stood on the tape before it. */
    private static void whatStoodBehind() {
        TanRow x = Checks.fed(new TanRow(), "guests");
        due("26 a letter more", x.esplanade(), -1);
        Checks.fed(x, "guest");
        due("26 a letter less", x.esplanade(), 1);
        Checks.fed(x, "sun 1 22");
        due("26 a digit more", x.esplanade(), -7);
        Checks.fed(x, "sun 1 2");
        due("26 a digit less", x.esplanade(), 1);
        Checks.fed(x, "bore brown    ");
        due("26 blanks behind", x.esplanade(), -15);
        Checks.fed(x, "bore brown");
        due("26 no blanks behind", x.esplanade(), -11);
        x.set(0, 2, 77);
        x.person(5);
        x.hours(3);
        Checks.fed(x, "bore");
        due("26 one more", x.esplanade(), 1);
        due("26 what there is stays", x.of(0, 2), 77);
        due("26 who is there stays", x.count(0), 3);
        due("26 the hour stays", x.now(0), 3);
    }

    private static void sheetCalls() {
        promise27();
        promise28();
        promise29();
        promise30();
        promise31();
        promise32();
    }

    private static void promise27() {
        TanRow x = new TanRow();
        due("27 a sheet", x.sheet(0, 8, 40), 40);
        due("27 none long", x.sheet(3, 64, 0), 0);
        due("27 written", x.write(0, 39, 5), 0);
        due("27 anew", x.sheet(0, 16, 40), 40);
        due("27 all 0", x.write(0, 39, 5), 0);
        due("27 missing", x.sheet(0, 0, 40), 0);
        due("27 is missing", x.write(0, 0, 0), Checks.MISSING);
        int[][] wrong = {{-1, 8, 1}, {4, 8, 1}, {0, 7, 1}, {0, 32, 1}, {0, -8, 1}, {-1, 8, -1}, {0, 9, -1},
            {0, 8, 41}, {0, 0, 41}, {0, 64, MAX}};
        for (int[] w : wrong) {
            beyond("27 sheet " + w[0] + " " + w[1] + " " + w[2], x.sheet(w[0], w[1], w[2]));
        }
        due("27 size", x.sheet(0, 8, -1), Checks.SIZE);
        due("27 size with bits 0", x.sheet(3, 0, -1), Checks.SIZE);
        due("27 size least", x.sheet(0, 64, MIN), Checks.SIZE);
        due("27 stays missing", x.write(0, 0, 0), Checks.MISSING);
        due("27 stays none long", x.book(3, 0), Checks.BEYOND);
    }

    private static void promise28() {
        TanRow x = new TanRow();
        int[] bits = {8, 16, 64};
        long[] values = {1, -1, 127, 128, 255, 256, 32767, 32768, 65536, Long.MIN_VALUE, Long.MAX_VALUE,
            -1000000001L};
        for (int b : bits) {
            x.sheet(1, b, 2);
            for (long v : values) {
                x.write(1, 1, v);
                long kept = b == 8 ? (byte) v : b == 16 ? (short) v : v;
                due("28 lowest " + b + " bits of " + v, x.write(1, 1, 0), kept);
            }
            due("28 the other number stays", x.write(1, 0, 0), 0);
        }
        due("28 no answer was a finding", x.status(-1), 0);
        beyond("28 no sheet", x.write(-1, 0, 0));
        beyond("28 no sheet 4", x.write(4, 0, 0));
        due("28 missing", x.write(0, -1, 0), Checks.MISSING);
        beyond("28 number -1", x.write(1, -1, 0));
        beyond("28 number 2", x.write(1, 2, 0));
        beyond("28 number most", x.write(1, MAX, 0));
        due("28 missing counted", x.status(5), 1);
    }

    private static void promise29() {
        TanRow x = new TanRow();
        x.sheet(0, 16, 5);
        x.sheet(1, 16, 3);
        x.sheet(2, 8, 5);
        for (int i = 0; i < 5; i++) {
            x.write(0, i, i + 1);
        }
        due("29 copied", x.copy(0, 1, 1, 0, 3), 3);
        due("29 first", x.write(1, 0, 2), 2);
        due("29 last", x.write(1, 2, 4), 4);
        due("29 onto itself, up", x.copy(0, 0, 0, 1, 4), 4);
        int[] up = {1, 1, 2, 3, 4};
        for (int i = 0; i < 5; i++) {
            due("29 up " + i, x.write(0, i, up[i]), up[i]);
        }
        due("29 onto itself, down", x.copy(0, 2, 0, 0, 3), 3);
        int[] down = {2, 3, 4, 3, 4};
        for (int i = 0; i < 5; i++) {
            due("29 down " + i, x.write(0, i, down[i]), down[i]);
        }
        due("29 none from the end", x.copy(0, 5, 1, 3, 0), 0);
        due("29 missing", x.copy(0, -1, 3, 0, 1), Checks.MISSING);
        due("29 missing, the first", x.copy(3, 0, 0, 0, 1), Checks.MISSING);
        due("29 kind", x.copy(0, -1, 2, 0, 99), Checks.KIND);
        int[][] wrong = {{-1, 0, 0, 0, 0}, {4, 0, 3, 0, 0}, {3, 0, 4, 0, 0}, {0, 0, -1, 0, 0}, {0, -1, 1, 0, 1},
            {0, 0, 1, -1, 1}, {0, 0, 1, 0, -1}, {0, 3, 1, 0, 3}, {0, 0, 1, 1, 3}, {0, 6, 1, 0, 0}, {0, 0, 1, 4, 0},
            {0, MAX, 1, 0, 1}, {0, 1, 1, 1, MAX}, {0, 0, 1, MAX, MAX}, {0, MIN, 1, MIN, MIN}};
        for (int[] w : wrong) {
            beyond("29 copy " + w[0] + " " + w[1] + " " + w[2] + " " + w[3] + " " + w[4],
                x.copy(w[0], w[1], w[2], w[3], w[4]));
        }
        due("29 stays", x.write(1, 0, 0), 2);
    }

    private static void promise30() {
        TanRow x = new TanRow();
        x.sheet(0, 64, 12);
        long[] numbers = {9, 10, -1, 0, 5, 256, 1L << 32, (1L << 32) + 3, 1, 2, 3, 4};
        for (int i = 0; i < 12; i++) {
            x.write(0, i, numbers[i]);
        }
        due("30 how many came", x.lays(0), 5);
        int[] sun = {9, 3, 6, 0, 5, 5, 8, 1, 1, 2};
        for (int i = 0; i < 10; i++) {
            due("30 sun " + i, x.sun(i, sun[i]), sun[i]);
        }
        x.sheet(1, 8, 1);
        due("30 a short one", x.lays(1), 1);
        due("30 its sun", x.sun(0, 0), 0);
        beyond("30 no sheet", x.lays(-1));
        beyond("30 no sheet 4", x.lays(4));
        due("30 missing", x.lays(3), Checks.MISSING);
    }

    private static void promise31() {
        TanRow x = Checks.told("sun 0 9;invalid brown 60 on 0;colonel brown 180 on 1");
        beyond("31 no sheet", x.book(-1, 0));
        beyond("31 no sheet 4", x.book(4, 0));
        due("31 missing is asked first", x.book(0, 2), Checks.MISSING);
        x.sheet(0, 16, 3);
        beyond("31 person -1", x.book(0, -1));
        beyond("31 person 2", x.book(0, 2));
        due("31 booked", x.book(0, 0), 3);
        // 12 in the first hour, 9 * 3 / 9 + 3 in the second; one and one for each.
        int[] browns = {120, 120 + 13 - 2, 131 + 7 - 2};
        for (int i = 0; i < 3; i++) {
            due("31 number " + i, x.write(0, i, 0), browns[i]);
        }
        x.sheet(1, 8, 3);
        x.book(1, 0);
        due("31 lowest bits", x.write(1, 1, 0), 131 - 256);
        due("31 nothing changes", x.now(0), 0);
        x.sheet(2, 64, 0);
        due("31 none long", x.book(2, 0), 0);
        x.sheet(2, 64, 40);
        due("31 all", x.book(2, 1), 40);
        due("31 the last", x.write(2, 39, 0), x.on(1, 39, 0) + x.on(1, 39, 1));
    }

    private static void promise32() {
        TanRow x = Checks.told("sun 0 9;sun 1 0;guest on 0;guest brown 180 on 1;guest");
        beyond("32 no sheet", x.read(-1, 0, 1));
        beyond("32 no sheet 4", x.read(4, 0, 1));
        due("32 missing is asked first", x.read(0, 0, 0), Checks.MISSING);
        x.sheet(0, 16, 2);
        int[][] wrong = {{-1, 0}, {3, 0}, {0, -1}, {0, 3}, {1, 1}};
        for (int[] w : wrong) {
            beyond("32 read " + w[0] + " " + w[1], x.read(0, w[0], w[1]));
        }
        x.book(0, 0);
        // 9 taken: a guest by a guest or a bore; an invalid or a lover takes 10 and fades 2
        // at most (8), a fake by a colonel takes 8 and fades 4: none of these.
        due("32 guests by guests and bores", x.read(0, 0, 1), 2);
        x.write(0, 1, 40);
        // A bore by any, and a fake that takes as much as it fades: by an invalid or a lover.
        due("32 who stays as it is", x.read(0, 0, 1), 8);
        x.write(0, 0, 41);
        due("32 what it is now is asked, too", x.read(0, 0, 1), 0);
        x.sheet(0, 8, 0);
        due("32 nothing is told", x.read(0, 0, 1), 36);
        due("32 nothing changes", x.of(0, 0), 0);
    }

    private static void imageCalls() {
        promises33To35();
        promise36();
        promise37();
    }

    private static void promises33To35() {
        TanRow x = Checks.told("sun 0 5;guest brown 40 on 3;bore");
        x.set(0, 4, 7);
        due("33 kept", x.image(), 1);
        x.sit(0, 4);
        x.sit(1, 3);
        x.person(5);
        x.turn(0, 1);
        x.set(0, 2, 0);
        x.set(0, 3, 0);
        x.set(0, 4, 0);
        x.sun(0, 1);
        x.hours(3);
        x.sheet(0, 8, 1);
        Checks.fed(x, "bore");
        for (int again = 0; again < 2; again++) {
            due("34 undone", x.undo(), 2);
            int[] was = {0, 3, 40, 40, 7};
            for (int what = 0; what < 5; what++) {
                due("34 what " + what, x.of(0, what), was[what]);
            }
            due("34 hour", x.now(0), 0);
            due("34 sun", x.now(2), 5);
            due("34 chair", x.chair(3), 0);
            due("34 chair left", x.chair(4), -1);
            due("34 sheets stay", x.write(0, 0, 0), 0);
            due("34 the tape stays", x.count(1), 4);
            x.hours(2);
            x.person(2);
        }
        due("33 kept anew", x.image(), 1);
        due("34 the latest", x.undo(), 3);
        due("34 a third is new", x.of(2, 0), 2);
        due("35 torn", x.tear(), 1);
        due("35 nothing to tear", x.tear(), 0);
        due("34 nothing kept", x.undo(), Checks.NONE);
        due("35 what is stays", x.count(0), 3);
        x.image();
        due("33 after tear", x.undo(), 3);
    }

    private static void promise36() {
        TanRow x = Checks.told("sun 0 4;guest on 1;guest;bore on 9");
        Checks.fed(x, "abc");
        due("36 people", x.count(0), 3);
        due("36 bytes", x.count(1), 3);
        due("36 those that sit", x.count(2), 2);
        due("36 sun of all", x.count(3), 49);
        beyond("36 what -1", x.count(-1));
        beyond("36 what 4", x.count(4));
    }

    private static void promise37() {
        TanRow x = new TanRow();
        due("37 none", x.status(-1), 0);
        x.chair(10);
        for (int i = 0; i < 9; i++) {
            x.person(0);
        }
        x.as(0, 1);
        x.undo();
        x.undo();
        x.change(0, 1);
        x.write(0, 0, 0);
        x.sheet(0, 8, -1);
        int[] each = {1, 1, 1, 2, 1, 1, 1};
        for (int f = 0; f < 7; f++) {
            due("37 finding " + f, x.status(f), each[f]);
        }
        due("37 all", x.status(-1), 8);
        beyond("37 another", x.status(7));
        beyond("37 another below", x.status(-2));
        due("37 counted from then on", x.status(0), 3);
        due("37 all of them", x.status(-1), 10);
        x.image();
        x.chair(10);
        x.undo();
        due("37 undo takes none back", x.status(0), 4);
    }
}
