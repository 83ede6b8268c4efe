import java.util.ArrayList;
import java.util.List;

/** The document told a second time, slowly and with objects, for ModelTest to ask beside TanRow. */
final class Model {
    static final String[] NAMES = {"guest", "colonel", "invalid", "bore", "lover", "fake"};

    static final class Person {
        int kind;
        int chair = -1;
        int left = 20;
        int right = 20;
        int burnt = 0;

        Person(int kind) {
            this.kind = kind;
        }

        Person twin() {
            Person p = new Person(kind);
            p.chair = chair;
            p.left = left;
            p.right = right;
            p.burnt = burnt;
            return p;
        }

        int brown() {
            return left + right;
        }

        boolean even() {
            return left - right <= 5 && right - left <= 5;
        }
    }

    static final class World {
        int hour = 0;
        int[] sun = {0, 3, 6, 9, 2, 5, 8, 1, 4, 7};
        List<Person> people = new ArrayList<>();

        World twin() {
            World w = new World();
            w.hour = hour;
            w.sun = sun.clone();
            for (Person p : people) {
                w.people.add(p.twin());
            }
            return w;
        }

        World after(int n) {
            World w = twin();
            for (int i = 0; i < n; i++) {
                w.pass();
            }
            return w;
        }

        Person onChair(int chair) {
            for (Person p : people) {
                if (chair >= 0 && p.chair == chair) {
                    return p;
                }
            }
            return null;
        }

        Person leftOf(Person p) {
            return p.chair < 0 ? null : onChair(p.chair - 1);
        }

        Person rightOf(Person p) {
            return p.chair < 0 ? null : onChair(p.chair + 1);
        }

        int light() {
            return sun[hour % 10];
        }

        int[] given(Person p) {
            Person l = leftOf(p);
            Person r = rightOf(p);
            return new int[] {
                l == null ? 0 : glow(l.kind, l.right, light(), p.kind),
                r == null ? 0 : glow(r.kind, r.left, light(), p.kind)};
        }

        int fade(Person p) {
            return switch (NAMES[p.kind]) {
                case "colonel" -> 0;
                case "invalid" -> 1;
                case "lover" -> leftOf(p) != null && rightOf(p) != null ? 0 : 1;
                case "fake" -> 2;
                default -> light() == 0 ? 1 : 0;
            };
        }

        void pass() {
            List<int[]> gifts = new ArrayList<>();
            for (Person p : people) {
                gifts.add(given(p));
            }
            for (int i = 0; i < people.size(); i++) {
                Person p = people.get(i);
                if (p.chair < 0) {
                    continue;
                }
                int[] g = gifts.get(i);
                p.left = hold(p.left + take(p.kind, g[0]) - fade(p), 200);
                p.right = hold(p.right + take(p.kind, g[1]) - fade(p), 200);
                p.burnt = hold(p.burnt + (g[0] >= burn(p.kind) ? 1 : 0) + (g[1] >= burn(p.kind) ? 1 : 0), 9999);
            }
            hour++;
        }

        int brownOfAll() {
            return people.stream().mapToInt(Person::brown).sum();
        }

        int burntOfAll() {
            return people.stream().mapToInt(p -> p.burnt).sum();
        }
    }

    private static int hold(int v, int most) {
        return v < 0 ? 0 : v > most ? most : v;
    }

    private static int glow(int kind, int b, int s, int other) {
        if (s == 0) {
            return 0;
        }
        return switch (NAMES[kind]) {
            case "colonel" -> glow(0, b, s, other) + 3;
            case "invalid" -> glow(0, b, s, other) / 2;
            case "bore" -> 9;
            case "lover" -> NAMES[other].equals("lover") ? 2 * glow(2, b, s, other) : glow(2, b, s, other);
            case "fake" -> glow(1, b, s, other) < 4 ? 0 : glow(1, b, s, other) - 4;
            default -> ((b / 20) * s) / 9;
        };
    }

    private static int take(int kind, int g) {
        return switch (NAMES[kind]) {
            case "colonel" -> g / 2;
            case "invalid", "lover" -> g > 0 ? g + 1 : 0;
            case "bore" -> 0;
            case "fake" -> g > 0 ? take(1, g) + 2 : 0;
            default -> g;
        };
    }

    private static int burn(int kind) {
        return switch (NAMES[kind]) {
            case "colonel" -> 40;
            case "invalid", "lover" -> 8;
            case "fake" -> burn(1) - 20;
            default -> 12;
        };
    }

    private World now = new World();
    private World kept = null;
    private final List<Integer> tape = new ArrayList<>();
    private final long[][] sheets = new long[4][];
    private final int[] bits = new int[4];
    private final int[] found = new int[7];

    private long finding(long f) {
        found[(int) (Checks.BEYOND - f)]++;
        return f;
    }

    private long beyond() {
        return finding(Checks.BEYOND);
    }

    private boolean in(long v, long least, long most) {
        return least <= v && v <= most;
    }

    private Person who(long p) {
        return in(p, 0, now.people.size() - 1) ? now.people.get((int) p) : null;
    }

    long ask(String call, long... a) {
        switch (call) {
            case "sun": case "chair": case "now":
                return esplanadeCall(call, a);
            case "person": case "of": case "set": case "turn": case "as": case "sit": case "given":
                return peopleCall(call, a);
            case "hours": case "on": case "brown": case "burns": case "even":
                return hourCall(call, a);
            case "where": case "change": case "kind": case "send": case "cloud": case "enough": case "brownest":
                return bestCall(call, a);
            case "feed": case "wipe": case "esplanade":
                return textCall(call, a);
            case "sheet": case "write": case "copy": case "lays": case "book": case "read":
                return sheetCall(call, a);
            default:
                return imageCall(call, a);
        }
    }

    private long esplanadeCall(String call, long[] a) {
        if (call.equals("sun")) {
            if (!in(a[0], 0, 9) || !in(a[1], 0, 9)) {
                return beyond();
            }
            int was = now.sun[(int) a[0]];
            now.sun[(int) a[0]] = (int) a[1];
            return was;
        }
        if (call.equals("chair")) {
            return in(a[0], 0, 9) ? now.people.indexOf(now.onChair((int) a[0])) : beyond();
        }
        if (!in(a[0], 0, 6)) {
            return beyond();
        }
        long sitting = 0;
        long evens = 0;
        for (int p = 0; p < now.people.size(); p++) {
            sitting += now.people.get(p).chair >= 0 ? 1L << p : 0;
            evens += now.people.get(p).even() ? 1L << p : 0;
        }
        long[] all = {now.hour, now.hour % 10, now.light(), sitting, evens, now.brownOfAll(), now.burntOfAll()};
        return all[(int) a[0]];
    }

    private long peopleCall(String call, long[] a) {
        if (call.equals("person")) {
            if (!in(a[0], 0, 5)) {
                return beyond();
            }
            if (now.people.size() == 8) {
                return finding(Checks.FULL);
            }
            now.people.add(new Person((int) a[0]));
            return now.people.size() - 1;
        }
        Person p = who(a[0]);
        if (p == null) {
            return beyond();
        }
        switch (call) {
            case "of":
                return in(a[1], 0, 8) ? allOf(p)[(int) a[1]] : beyond();
            case "set":
                return set(p, a[1], a[2]);
            case "turn":
                if (!in(a[1], 0, 5)) {
                    return beyond();
                }
                int was = p.kind;
                p.kind = (int) a[1];
                return was;
            case "as":
                if (!in(a[1], 0, 5)) {
                    return beyond();
                }
                boolean is = a[1] == 0 || a[1] == p.kind || a[1] == 1 && p.kind == 5 || a[1] == 2 && p.kind == 4;
                return is ? p.brown() : finding(Checks.KIND);
            case "sit":
                return sit(p, a[1]);
            default:
                return in(a[1], 0, 1) ? now.given(p)[(int) a[1]] : beyond();
        }
    }

    private long[] allOf(Person p) {
        return new long[] {p.kind, p.chair, p.left, p.right, p.burnt, now.fade(p), burn(p.kind),
            now.people.indexOf(now.leftOf(p)), now.people.indexOf(now.rightOf(p))};
    }

    private long set(Person p, long what, long v) {
        if (what == 2 && in(v, 0, 200)) {
            int was = p.left;
            p.left = (int) v;
            return was;
        }
        if (what == 3 && in(v, 0, 200)) {
            int was = p.right;
            p.right = (int) v;
            return was;
        }
        if (what == 4 && in(v, 0, 9999)) {
            int was = p.burnt;
            p.burnt = (int) v;
            return was;
        }
        return beyond();
    }

    private long sit(Person p, long chair) {
        if (!in(chair, -1, 9)) {
            return beyond();
        }
        Person there = now.onChair((int) chair);
        if (there != null && there != p) {
            return finding(Checks.STATE);
        }
        int was = p.chair;
        p.chair = (int) chair;
        return was;
    }

    private long hourCall(String call, long[] a) {
        if (call.equals("hours")) {
            if (!in(a[0], 1, 100)) {
                return beyond();
            }
            if (now.hour + a[0] > 99999) {
                return finding(Checks.STATE);
            }
            now = now.after((int) a[0]);
            return now.brownOfAll();
        }
        Person p = who(a[0]);
        if (p == null || call.equals("on") && (!in(a[1], 0, 200) || !in(a[2], 0, 2))
            || call.equals("brown") && !in(a[1], 0, 400)) {
            return beyond();
        }
        if (call.equals("on")) {
            Person then = now.after((int) a[1]).people.get((int) a[0]);
            return a[2] == 0 ? then.left : a[2] == 1 ? then.right : then.burnt;
        }
        World w = now.twin();
        for (int n = 0; n <= 200; n++) {
            Person then = w.people.get((int) a[0]);
            if (call.equals("brown") && then.brown() >= a[1] || call.equals("even") && then.even()
                || call.equals("burns") && then.burnt > p.burnt) {
                return n;
            }
            w.pass();
        }
        return finding(Checks.NONE);
    }

    private long bestCall(String call, long[] a) {
        switch (call) {
            case "where":
                return where(a);
            case "change":
                return change(a);
            case "kind":
                return kind(a);
            case "send":
                return send(a);
            case "cloud":
                return cloud(a);
            case "enough":
                return enough(a);
            default:
                return brownest(a);
        }
    }

    /** The first place of the most, -1 if nothing may be chosen (all below 0). */
    private static int firstMost(long[] values) {
        int best = -1;
        for (int i = values.length - 1; i >= 0; i--) {
            if (values[i] >= 0 && (best < 0 || values[i] >= values[best])) {
                best = i;
            }
        }
        return best;
    }

    private long where(long[] a) {
        if (who(a[0]) == null || !in(a[1], 1, 60)) {
            return beyond();
        }
        long[] values = new long[10];
        for (int c = 0; c < 10; c++) {
            World w = now.twin();
            Person p = w.people.get((int) a[0]);
            Person there = w.onChair(c);
            p.chair = c;
            values[c] = there != null && there != p ? -1 : w.after((int) a[1]).people.get((int) a[0]).brown();
        }
        return firstMost(values);
    }

    private long change(long[] a) {
        if (who(a[0]) == null || !in(a[1], 1, 60)) {
            return beyond();
        }
        if (who(a[0]).chair < 0) {
            return finding(Checks.STATE);
        }
        long[] values = new long[now.people.size()];
        for (int q = 0; q < values.length; q++) {
            World w = now.twin();
            Person one = w.people.get((int) a[0]);
            Person two = w.people.get(q);
            int chair = one.chair;
            one.chair = two.chair;
            two.chair = chair;
            w = w.after((int) a[1]);
            boolean may = q != a[0] && now.people.get(q).chair >= 0;
            values[q] = may ? w.people.get((int) a[0]).brown() + w.people.get(q).brown() : -1;
        }
        int best = firstMost(values);
        return best < 0 ? finding(Checks.NONE) : best;
    }

    private long kind(long[] a) {
        if (who(a[0]) == null || !in(a[1], 1, 60)) {
            return beyond();
        }
        long[] values = new long[6];
        for (int k = 0; k < 6; k++) {
            World w = now.twin();
            w.people.get((int) a[0]).kind = k;
            values[k] = w.after((int) a[1]).people.get((int) a[0]).brown();
        }
        return firstMost(values);
    }

    private long send(long[] a) {
        if (!in(a[0], 1, 60)) {
            return beyond();
        }
        long[] values = new long[now.people.size()];
        for (int p = 0; p < values.length; p++) {
            World w = now.twin();
            w.people.get(p).chair = -1;
            values[p] = now.people.get(p).chair < 0 ? -1 : 1000000 - w.after((int) a[0]).burntOfAll();
        }
        int best = firstMost(values);
        return best < 0 ? finding(Checks.NONE) : best;
    }

    private long cloud(long[] a) {
        if (!in(a[0], 1, 60)) {
            return beyond();
        }
        long[] values = new long[10];
        for (int i = 0; i < 10; i++) {
            World w = now.twin();
            w.sun[i] = 0;
            values[i] = 1000000 - w.after((int) a[0]).brownOfAll();
        }
        return firstMost(values);
    }

    private long enough(long[] a) {
        if (who(a[0]) == null || who(a[1]) == null || a[0] == a[1] || !in(a[2], 1, 60) || !in(a[3], 0, 400)) {
            return beyond();
        }
        for (int left = 0; left <= 200; left++) {
            World w = now.twin();
            w.people.get((int) a[0]).left = left;
            if (w.after((int) a[2]).people.get((int) a[1]).brown() >= a[3]) {
                return left;
            }
        }
        return finding(Checks.NONE);
    }

    private long brownest(long[] a) {
        if (!in(a[0], 0, 200)) {
            return beyond();
        }
        int best = firstMost(now.after((int) a[0]).people.stream().mapToLong(Person::brown).toArray());
        return best < 0 ? finding(Checks.NONE) : best;
    }

    private long textCall(String call, long[] a) {
        if (call.equals("feed")) {
            if (!in(a[1], 1, 4)) {
                return beyond();
            }
            if (tape.size() + a[1] > 120) {
                return finding(Checks.FULL);
            }
            for (int i = (int) a[1] - 1; i >= 0; i--) {
                tape.add((int) (a[0] >> 8 * i) & 255);
            }
            return tape.size();
        }
        int had = tape.size();
        if (call.equals("esplanade")) {
            ModelText text = new ModelText(tape, now.twin());
            had = text.read();
            now = had >= 0 ? text.world : now;
        }
        tape.clear();
        return had;
    }

    private long sheetCall(String call, long[] a) {
        if (!in(a[0], 0, 3)) {
            return beyond();
        }
        if (call.equals("sheet")) {
            return sheet((int) a[0], (int) a[1], a[2]);
        }
        if (call.equals("copy")) {
            return copy(a);
        }
        long[] row = sheets[(int) a[0]];
        if (row == null) {
            return finding(Checks.MISSING);
        }
        if (call.equals("write")) {
            if (!in(a[1], 0, row.length - 1)) {
                return beyond();
            }
            long was = row[(int) a[1]];
            row[(int) a[1]] = cut(a[2], bits[(int) a[0]]);
            return was;
        }
        if (call.equals("lays")) {
            int came = 0;
            for (int i = 0; i < Math.min(10, row.length); i++) {
                if (in(row[i], 0, 9)) {
                    now.sun[i] = (int) row[i];
                    came++;
                }
            }
            return came;
        }
        if (call.equals("book")) {
            if (who(a[1]) == null) {
                return beyond();
            }
            for (int i = 0; i < row.length; i++) {
                row[i] = cut(now.after(i).people.get((int) a[1]).brown(), bits[(int) a[0]]);
            }
            return row.length;
        }
        return read(row, a);
    }

    private long sheet(int s, int b, long n) {
        if (b != 0 && b != 8 && b != 16 && b != 64) {
            return beyond();
        }
        if (n < 0) {
            return finding(Checks.SIZE);
        }
        if (n > 40) {
            return beyond();
        }
        sheets[s] = b == 0 ? null : new long[(int) n];
        bits[s] = b;
        return b == 0 ? 0 : n;
    }

    private static long cut(long v, int b) {
        return v << 64 - b >> 64 - b;
    }

    private long copy(long[] a) {
        if (!in(a[2], 0, 3)) {
            return beyond();
        }
        long[] from = sheets[(int) a[0]];
        long[] to = sheets[(int) a[2]];
        if (from == null || to == null) {
            return finding(Checks.MISSING);
        }
        if (bits[(int) a[0]] != bits[(int) a[2]]) {
            return finding(Checks.KIND);
        }
        if (a[1] < 0 || a[3] < 0 || a[4] < 0 || a[1] + a[4] > from.length || a[3] + a[4] > to.length) {
            return beyond();
        }
        long[] were = from.clone();
        for (int i = 0; i < a[4]; i++) {
            to[(int) a[3] + i] = were[(int) a[1] + i];
        }
        return a[4];
    }

    private long read(long[] row, long[] a) {
        if (who(a[1]) == null || who(a[2]) == null || a[1] == a[2]) {
            return beyond();
        }
        int pairs = 0;
        for (int k = 0; k < 36; k++) {
            World w = now.twin();
            w.people.get((int) a[1]).kind = k / 6;
            w.people.get((int) a[2]).kind = k % 6;
            boolean so = true;
            for (long v : row) {
                so &= w.people.get((int) a[1]).brown() == v;
                w.pass();
            }
            pairs += so ? 1 : 0;
        }
        return pairs;
    }

    private long imageCall(String call, long[] a) {
        switch (call) {
            case "image":
                kept = now.twin();
                return 1;
            case "undo":
                if (kept == null) {
                    return finding(Checks.NONE);
                }
                now = kept.twin();
                return now.people.size();
            case "tear":
                int had = kept == null ? 0 : 1;
                kept = null;
                return had;
            case "count":
                long sum = 0;
                for (int s : now.sun) {
                    sum += s;
                }
                long[] all = {now.people.size(), tape.size(),
                    now.people.stream().filter(p -> p.chair >= 0).count(), sum};
                return in(a[0], 0, 3) ? all[(int) a[0]] : beyond();
            default:
                if (!in(a[0], -1, 6)) {
                    return beyond();
                }
                long total = 0;
                for (int f : found) {
                    total += f;
                }
                return a[0] < 0 ? total : found[(int) a[0]];
        }
    }
}
