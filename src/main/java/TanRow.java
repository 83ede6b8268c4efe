import java.util.Arrays;

/** An esplanade where one goes brown by the company one keeps: see README.md. */
public final class TanRow {
    private static final int BEYOND = -1000000001;
    private static final int FULL = -1000000002;
    private static final int KIND = -1000000003;
    private static final int NONE = -1000000004;
    private static final int STATE = -1000000005;
    private static final int MISSING = -1000000006;
    private static final int SIZE = -1000000007;
    private static final int FINDINGS = 7;

    private static final int GUEST = 0;
    private static final int COLONEL = 1;
    private static final int INVALID = 2;
    private static final int BORE = 3;
    private static final int LOVER = 4;
    private static final int FAKE = 5;
    private static final int KINDS = 6;

    private static final int LAST_HOUR = 99999;
    private static final int PLACES = 10;
    private static final int MOST_SUN = 9;
    private static final int CHAIRS = 10;
    private static final int PEOPLE = 8;
    private static final int BROWN_AT_FIRST = 20;
    private static final int MOST_BROWN = 200;
    private static final int MOST_BOTH = 400;
    private static final int MOST_BURNT = 9999;
    private static final int EVEN_WITHIN = 5;
    private static final int MOST_HOURS = 100;
    private static final int FAR = 200;
    private static final int NEAR = 60;
    private static final int TAPE = 120;
    private static final int SHEETS = 4;
    private static final int NUMBERS = 40;

    private final Shore shore = new Shore();
    private final Shore trial = new Shore();
    private final Shore kept = new Shore();
    private final Text text = new Text();
    private final Sheet[] sheets = new Sheet[SHEETS];
    private final int[] findings = new int[FINDINGS];
    private boolean keeps = false;

    public TanRow() {
        for (int s = 0; s < SHEETS; s++) {
            sheets[s] = new Sheet();
        }
    }

    // ---- the esplanade

    public int sun(int place, int v) {
        if (!within(place, 0, PLACES - 1) || !within(v, 0, MOST_SUN)) {
            return finding(BEYOND);
        }
        int was = shore.suns[place];
        shore.suns[place] = v;
        return was;
    }

    public int chair(int chair) {
        return within(chair, 0, CHAIRS - 1) ? shore.sitters[chair] : finding(BEYOND);
    }

    public int now(int what) {
        switch (what) {
            case 0: return shore.hour;
            case 1: return shore.place();
            case 2: return shore.sunNow();
            case 3: return shore.setOfSitters();
            case 4: return shore.setOfEven();
            case 5: return shore.brownOfAll();
            case 6: return shore.burntOfAll();
            default: return finding(BEYOND);
        }
    }

    // ---- people

    public int person(int kind) {
        if (!isKind(kind)) {
            return finding(BEYOND);
        }
        if (shore.people >= PEOPLE) {
            return finding(FULL);
        }
        return shore.add(kind, BROWN_AT_FIRST);
    }

    public int of(int person, int what) {
        if (!isPerson(person)) {
            return finding(BEYOND);
        }
        switch (what) {
            case 0: return shore.kinds[person];
            case 1: return shore.chairs[person];
            case 2: return shore.lefts[person];
            case 3: return shore.rights[person];
            case 4: return shore.burnts[person];
            case 5: return shore.fadesOf(person);
            case 6: return Ways.burnsFrom(shore.kinds[person]);
            case 7: return shore.neighbour(person, -1);
            case 8: return shore.neighbour(person, 1);
            default: return finding(BEYOND);
        }
    }

    public int set(int person, int what, int v) {
        if (!isPerson(person) || !within(what, 2, 4)) {
            return finding(BEYOND);
        }
        if (!within(v, 0, what == 4 ? MOST_BURNT : MOST_BROWN)) {
            return finding(BEYOND);
        }
        int[] row = what == 2 ? shore.lefts : what == 3 ? shore.rights : shore.burnts;
        int was = row[person];
        row[person] = v;
        return was;
    }

    public int turn(int person, int kind) {
        if (!isPerson(person) || !isKind(kind)) {
            return finding(BEYOND);
        }
        int was = shore.kinds[person];
        shore.kinds[person] = kind;
        return was;
    }

    public int as(int person, int kind) {
        if (!isPerson(person) || !isKind(kind)) {
            return finding(BEYOND);
        }
        if (!Ways.isOrIsUnder(shore.kinds[person], kind)) {
            return finding(KIND);
        }
        return shore.brownOf(person);
    }

    public int sit(int person, int chair) {
        if (!isPerson(person) || !within(chair, -1, CHAIRS - 1)) {
            return finding(BEYOND);
        }
        if (chair >= 0 && !shore.isFreeFor(person, chair)) {
            return finding(STATE);
        }
        int was = shore.chairs[person];
        shore.seat(person, chair);
        return was;
    }

    public int given(int person, int side) {
        if (!isPerson(person) || !within(side, 0, 1)) {
            return finding(BEYOND);
        }
        return side == 0 ? shore.givenLeft(person) : shore.givenRight(person);
    }

    // ---- hours

    public int hours(int n) {
        if (!within(n, 1, MOST_HOURS)) {
            return finding(BEYOND);
        }
        if (shore.hour + n > LAST_HOUR) {
            return finding(STATE);
        }
        shore.goOn(n);
        return shore.brownOfAll();
    }

    public int on(int person, int n, int what) {
        if (!isPerson(person) || !within(n, 0, FAR) || !within(what, 0, 2)) {
            return finding(BEYOND);
        }
        startTrial();
        trial.goOn(n);
        int[] row = what == 0 ? trial.lefts : what == 1 ? trial.rights : trial.burnts;
        return row[person];
    }

    public int brown(int person, int v) {
        if (!isPerson(person) || !within(v, 0, MOST_BOTH)) {
            return finding(BEYOND);
        }
        startTrial();
        for (int n = 0; n <= FAR; n++) {
            if (trial.brownOf(person) >= v) {
                return n;
            }
            trial.passHour();
        }
        return finding(NONE);
    }

    public int burns(int person) {
        if (!isPerson(person)) {
            return finding(BEYOND);
        }
        startTrial();
        for (int n = 1; n <= FAR; n++) {
            trial.passHour();
            if (trial.burnts[person] > shore.burnts[person]) {
                return n;
            }
        }
        return finding(NONE);
    }

    public int even(int person) {
        if (!isPerson(person)) {
            return finding(BEYOND);
        }
        startTrial();
        for (int n = 0; n <= FAR; n++) {
            if (trial.isEven(person)) {
                return n;
            }
            trial.passHour();
        }
        return finding(NONE);
    }

    // ---- what is best

    public int where(int person, int n) {
        if (!isPerson(person) || !within(n, 1, NEAR)) {
            return finding(BEYOND);
        }
        int best = -1;
        int most = -1;
        for (int c = 0; c < CHAIRS; c++) {
            if (shore.isFreeFor(person, c)) {
                startTrial();
                trial.seat(person, c);
                trial.goOn(n);
                if (trial.brownOf(person) > most) {
                    most = trial.brownOf(person);
                    best = c;
                }
            }
        }
        return best;
    }

    public int change(int person, int n) {
        if (!isPerson(person) || !within(n, 1, NEAR)) {
            return finding(BEYOND);
        }
        if (!shore.sits(person)) {
            return finding(STATE);
        }
        int best = -1;
        int most = -1;
        for (int p = 0; p < shore.people; p++) {
            if (p != person && shore.sits(p)) {
                startTrial();
                trial.swap(person, p);
                trial.goOn(n);
                int both = trial.brownOf(person) + trial.brownOf(p);
                if (both > most) {
                    most = both;
                    best = p;
                }
            }
        }
        return best >= 0 ? best : finding(NONE);
    }

    public int kind(int person, int n) {
        if (!isPerson(person) || !within(n, 1, NEAR)) {
            return finding(BEYOND);
        }
        int best = -1;
        int most = -1;
        for (int k = 0; k < KINDS; k++) {
            startTrial();
            trial.kinds[person] = k;
            trial.goOn(n);
            if (trial.brownOf(person) > most) {
                most = trial.brownOf(person);
                best = k;
            }
        }
        return best;
    }

    public int send(int n) {
        if (!within(n, 1, NEAR)) {
            return finding(BEYOND);
        }
        int best = -1;
        int least = 0;
        for (int p = 0; p < shore.people; p++) {
            if (shore.sits(p)) {
                startTrial();
                trial.seat(p, -1);
                trial.goOn(n);
                int burnt = trial.burntOfAll();
                if (best < 0 || burnt < least) {
                    least = burnt;
                    best = p;
                }
            }
        }
        return best >= 0 ? best : finding(NONE);
    }

    public int cloud(int n) {
        if (!within(n, 1, NEAR)) {
            return finding(BEYOND);
        }
        int best = -1;
        int least = 0;
        for (int i = 0; i < PLACES; i++) {
            startTrial();
            trial.suns[i] = 0;
            trial.goOn(n);
            int brown = trial.brownOfAll();
            if (best < 0 || brown < least) {
                least = brown;
                best = i;
            }
        }
        return best;
    }

    public int enough(int person, int other, int n, int v) {
        if (!isPerson(person) || !isPerson(other) || person == other) {
            return finding(BEYOND);
        }
        if (!within(n, 1, NEAR) || !within(v, 0, MOST_BOTH)) {
            return finding(BEYOND);
        }
        if (brownWith(person, MOST_BROWN, other, n) < v) {
            return finding(NONE);
        }
        // Halving is safe: one who is browner never makes another less brown,
        // since GLOWS and TAKES only rise and FADES does not ask how brown.
        int low = 0;
        int high = MOST_BROWN;
        for (int step = 0; step < MOST_BROWN && low < high; step++) {
            int middle = (low + high) / 2;
            if (brownWith(person, middle, other, n) >= v) {
                high = middle;
            } else {
                low = middle + 1;
            }
        }
        return high;
    }

    public int brownest(int n) {
        if (!within(n, 0, FAR)) {
            return finding(BEYOND);
        }
        startTrial();
        trial.goOn(n);
        int best = -1;
        int most = -1;
        for (int p = 0; p < trial.people; p++) {
            if (trial.brownOf(p) > most) {
                most = trial.brownOf(p);
                best = p;
            }
        }
        return best >= 0 ? best : finding(NONE);
    }

    // ---- the text

    public int feed(int bytes, int n) {
        if (!within(n, 1, 4)) {
            return finding(BEYOND);
        }
        if (text.size + n > TAPE) {
            return finding(FULL);
        }
        for (int i = n - 1; i >= 0; i--) {
            text.append((bytes >>> (8 * i)) & 255);
        }
        return text.size;
    }

    public int wipe() {
        int had = text.size;
        text.size = 0;
        return had;
    }

    public int esplanade() {
        // The ITEMS come to the trial first, so that a FAULT leaves all as it is.
        startTrial();
        int items = text.readAll(trial);
        text.size = 0;
        if (items >= 0) {
            shore.become(trial);
        }
        return items;
    }

    // ---- sheets

    public int sheet(int s, int bits, int n) {
        Sheet sheet = sheetAt(s);
        if (sheet == null || (bits != 0 && bits != 8 && bits != 16 && bits != 64)) {
            return finding(BEYOND);
        }
        if (n < 0) {
            return finding(SIZE);
        }
        if (n > NUMBERS) {
            return finding(BEYOND);
        }
        sheet.begin(bits, n);
        return sheet.size;
    }

    public long write(int s, int i, long v) {
        Sheet sheet = sheetAt(s);
        if (sheet == null) {
            return finding(BEYOND);
        }
        if (sheet.isMissing()) {
            return finding(MISSING);
        }
        if (!within(i, 0, sheet.size - 1)) {
            return finding(BEYOND);
        }
        long was = sheet.numbers[i];
        sheet.put(i, v);
        return was;
    }

    public int copy(int s, int from, int t, int to, int n) {
        Sheet source = sheetAt(s);
        Sheet target = sheetAt(t);
        if (source == null || target == null) {
            return finding(BEYOND);
        }
        if (source.isMissing() || target.isMissing()) {
            return finding(MISSING);
        }
        if (source.bits != target.bits) {
            return finding(KIND);
        }
        if (!source.has(from, n) || !target.has(to, n)) {
            return finding(BEYOND);
        }
        System.arraycopy(source.numbers, from, target.numbers, to, n);
        return n;
    }

    public int lays(int s) {
        Sheet sheet = sheetAt(s);
        if (sheet == null) {
            return finding(BEYOND);
        }
        if (sheet.isMissing()) {
            return finding(MISSING);
        }
        int came = 0;
        for (int i = 0; i < sheet.size && i < PLACES; i++) {
            long v = sheet.numbers[i];
            if (v >= 0 && v <= MOST_SUN) {
                shore.suns[i] = (int) v;
                came++;
            }
        }
        return came;
    }

    public int book(int s, int person) {
        Sheet sheet = sheetAt(s);
        if (sheet == null) {
            return finding(BEYOND);
        }
        if (sheet.isMissing()) {
            return finding(MISSING);
        }
        if (!isPerson(person)) {
            return finding(BEYOND);
        }
        startTrial();
        for (int i = 0; i < sheet.size; i++) {
            sheet.put(i, trial.brownOf(person));
            trial.passHour();
        }
        return sheet.size;
    }

    public int read(int s, int person, int other) {
        Sheet sheet = sheetAt(s);
        if (sheet == null) {
            return finding(BEYOND);
        }
        if (sheet.isMissing()) {
            return finding(MISSING);
        }
        if (!isPerson(person) || !isPerson(other) || person == other) {
            return finding(BEYOND);
        }
        int pairs = 0;
        for (int k = 0; k < KINDS; k++) {
            for (int l = 0; l < KINDS; l++) {
                startTrial();
                trial.kinds[person] = k;
                trial.kinds[other] = l;
                if (trialGoesAs(sheet, person)) {
                    pairs++;
                }
            }
        }
        return pairs;
    }

    // ---- images

    public int image() {
        kept.become(shore);
        keeps = true;
        return 1;
    }

    public int undo() {
        if (!keeps) {
            return finding(NONE);
        }
        shore.become(kept);
        return shore.people;
    }

    public int tear() {
        int had = keeps ? 1 : 0;
        keeps = false;
        return had;
    }

    public int count(int what) {
        switch (what) {
            case 0: return shore.people;
            case 1: return text.size;
            case 2: return Integer.bitCount(shore.setOfSitters());
            case 3: return shore.sunOfAll();
            default: return finding(BEYOND);
        }
    }

    public int status(int which) {
        if (!within(which, -1, FINDINGS - 1)) {
            return finding(BEYOND);
        }
        if (which >= 0) {
            return findings[which];
        }
        int all = 0;
        for (int f = 0; f < FINDINGS; f++) {
            all += findings[f];
        }
        return all;
    }

    // ---- what the calls share

    private int finding(int f) {
        int which = BEYOND - f;
        if (within(which, 0, FINDINGS - 1)) {
            findings[which]++;
        }
        return f;
    }

    private static boolean within(int v, int least, int most) {
        return v >= least && v <= most;
    }

    private static boolean isKind(int kind) {
        return within(kind, 0, KINDS - 1);
    }

    private boolean isPerson(int person) {
        return within(person, 0, shore.people - 1);
    }

    private Sheet sheetAt(int s) {
        return within(s, 0, SHEETS - 1) ? sheets[s] : null;
    }

    private void startTrial() {
        trial.become(shore);
    }

    private int brownWith(int person, int left, int other, int n) {
        startTrial();
        trial.lefts[person] = left;
        trial.goOn(n);
        return trial.brownOf(other);
    }

    private boolean trialGoesAs(Sheet sheet, int person) {
        for (int i = 0; i < sheet.size; i++) {
            if (sheet.numbers[i] != trial.brownOf(person)) {
                return false;
            }
            trial.passHour();
        }
        return true;
    }

    /** What people of each KIND do. */
    private static final class Ways {
        private static final int[] ABOVE = {-1, GUEST, GUEST, GUEST, INVALID, COLONEL};

        private Ways() {
        }

        static boolean isOrIsUnder(int kind, int other) {
            int k = kind;
            for (int step = 0; step < KINDS && isKind(k); step++) {
                if (k == other) {
                    return true;
                }
                k = ABOVE[k];
            }
            return false;
        }

        static int glows(int kind, int brown, int sun, int toKind) {
            if (sun == 0) {
                return 0;
            }
            int asGuest = brown / 20 * sun / 9;
            switch (kind) {
                case COLONEL: return asGuest + 3;
                case INVALID: return asGuest / 2;
                case BORE: return 9;
                case LOVER: return asGuest / 2 * (toKind == LOVER ? 2 : 1);
                case FAKE: return Math.max(0, asGuest + 3 - 4);
                default: return asGuest;
            }
        }

        static int takes(int kind, int given) {
            if (given == 0) {
                return 0;
            }
            switch (kind) {
                case COLONEL: return given / 2;
                case INVALID: return given + 1;
                case BORE: return 0;
                case LOVER: return given + 1;
                case FAKE: return given / 2 + 2;
                default: return given;
            }
        }

        static int fades(int kind, int sun, boolean hasBoth) {
            switch (kind) {
                case COLONEL: return 0;
                case INVALID: return 1;
                case LOVER: return hasBoth ? 0 : 1;
                case FAKE: return 2;
                default: return sun == 0 ? 1 : 0;
            }
        }

        static int burnsFrom(int kind) {
            switch (kind) {
                case COLONEL: return 40;
                case INVALID: return 8;
                case LOVER: return 8;
                case FAKE: return 40 - 20;
                default: return 12;
            }
        }
    }

    /** All that an image keeps: HOUR, SUN, CHAIRS and PEOPLE. */
    private static final class Shore {
        int hour = 0;
        int people = 0;
        final int[] suns = new int[PLACES];
        final int[] sitters = new int[CHAIRS];
        final int[] kinds = new int[PEOPLE];
        final int[] chairs = new int[PEOPLE];
        final int[] lefts = new int[PEOPLE];
        final int[] rights = new int[PEOPLE];
        final int[] burnts = new int[PEOPLE];
        // Found out anew in each HOUR; kept here only so that no HOUR makes rows.
        private final int[] fromLeft = new int[PEOPLE];
        private final int[] fromRight = new int[PEOPLE];

        Shore() {
            for (int i = 0; i < PLACES; i++) {
                suns[i] = 3 * i % 10;
            }
            Arrays.fill(sitters, -1);
            Arrays.fill(chairs, -1);
        }

        void become(Shore other) {
            hour = other.hour;
            people = other.people;
            System.arraycopy(other.suns, 0, suns, 0, PLACES);
            System.arraycopy(other.sitters, 0, sitters, 0, CHAIRS);
            System.arraycopy(other.kinds, 0, kinds, 0, PEOPLE);
            System.arraycopy(other.chairs, 0, chairs, 0, PEOPLE);
            System.arraycopy(other.lefts, 0, lefts, 0, PEOPLE);
            System.arraycopy(other.rights, 0, rights, 0, PEOPLE);
            System.arraycopy(other.burnts, 0, burnts, 0, PEOPLE);
        }

        int place() {
            return hour % PLACES;
        }

        int sunNow() {
            return suns[place()];
        }

        int sunOfAll() {
            int all = 0;
            for (int i = 0; i < PLACES; i++) {
                all += suns[i];
            }
            return all;
        }

        /** The caller has seen to it that there is room. */
        int add(int kind, int brown) {
            int p = people;
            kinds[p] = kind;
            chairs[p] = -1;
            lefts[p] = brown;
            rights[p] = brown;
            burnts[p] = 0;
            people = p + 1;
            return p;
        }

        boolean sits(int p) {
            return chairs[p] >= 0;
        }

        boolean isFreeFor(int p, int chair) {
            return sitters[chair] < 0 || sitters[chair] == p;
        }

        void seat(int p, int chair) {
            if (chairs[p] >= 0) {
                sitters[chairs[p]] = -1;
            }
            chairs[p] = chair;
            if (chair >= 0) {
                sitters[chair] = p;
            }
        }

        void swap(int p, int q) {
            int chairOfP = chairs[p];
            int chairOfQ = chairs[q];
            seat(p, -1);
            seat(q, chairOfP);
            seat(p, chairOfQ);
        }

        int neighbour(int p, int step) {
            int chair = chairs[p] + step;
            return sits(p) && within(chair, 0, CHAIRS - 1) ? sitters[chair] : -1;
        }

        int setOfSitters() {
            int set = 0;
            for (int p = 0; p < people; p++) {
                if (sits(p)) {
                    set |= 1 << p;
                }
            }
            return set;
        }

        int setOfEven() {
            int set = 0;
            for (int p = 0; p < people; p++) {
                if (isEven(p)) {
                    set |= 1 << p;
                }
            }
            return set;
        }

        boolean isEven(int p) {
            return Math.abs(lefts[p] - rights[p]) <= EVEN_WITHIN;
        }

        int brownOf(int p) {
            return lefts[p] + rights[p];
        }

        int brownOfAll() {
            int all = 0;
            for (int p = 0; p < people; p++) {
                all += brownOf(p);
            }
            return all;
        }

        int burntOfAll() {
            int all = 0;
            for (int p = 0; p < people; p++) {
                all += burnts[p];
            }
            return all;
        }

        int fadesOf(int p) {
            boolean hasBoth = neighbour(p, -1) >= 0 && neighbour(p, 1) >= 0;
            return Ways.fades(kinds[p], sunNow(), hasBoth);
        }

        int givenLeft(int p) {
            int q = neighbour(p, -1);
            return q < 0 ? 0 : Ways.glows(kinds[q], rights[q], sunNow(), kinds[p]);
        }

        int givenRight(int p) {
            int q = neighbour(p, 1);
            return q < 0 ? 0 : Ways.glows(kinds[q], lefts[q], sunNow(), kinds[p]);
        }

        void goOn(int n) {
            for (int i = 0; i < n; i++) {
                passHour();
            }
        }

        void passHour() {
            for (int p = 0; p < people; p++) {
                fromLeft[p] = givenLeft(p);
                fromRight[p] = givenRight(p);
            }
            for (int p = 0; p < people; p++) {
                if (sits(p)) {
                    int fades = fadesOf(p);
                    lefts[p] = browned(p, lefts[p], fromLeft[p], fades);
                    rights[p] = browned(p, rights[p], fromRight[p], fades);
                    burn(p, fromLeft[p]);
                    burn(p, fromRight[p]);
                }
            }
            hour++;
        }

        private int browned(int p, int brown, int given, int fades) {
            int then = brown + Ways.takes(kinds[p], given) - fades;
            return Math.max(0, Math.min(MOST_BROWN, then));
        }

        private void burn(int p, int given) {
            if (given >= Ways.burnsFrom(kinds[p]) && burnts[p] < MOST_BURNT) {
                burnts[p]++;
            }
        }
    }

    /** A row of numbers, or MISSING (bits 0). */
    private static final class Sheet {
        int bits = 0;
        int size = 0;
        final long[] numbers = new long[NUMBERS];

        boolean isMissing() {
            return bits == 0;
        }

        void begin(int newBits, int n) {
            bits = newBits;
            size = newBits == 0 ? 0 : n;
            Arrays.fill(numbers, 0L);
        }

        boolean has(int from, int n) {
            return from >= 0 && n >= 0 && from <= size && n <= size - from;
        }

        /** Numbers are signed, as Java's own of 8, 16 and 64 bits are. */
        void put(int i, long v) {
            numbers[i] = bits == 8 ? (byte) v : bits == 16 ? (short) v : v;
        }
    }

    /** THE TAPE, and the reader of its TEXT: one TOKEN stands open at a time. */
    private static final class Text {
        private static final int AT_END = 0;
        private static final int WORD = 1;
        private static final int NUMBER = 2;
        private static final int SIGN = 3;
        private static final int NO_TOKEN = 4;
        private static final int MOST_NUMBER = 999;

        int size = 0;
        private final int[] tape = new int[TAPE];
        private int sort = AT_END;
        private int start = 0;
        private int end = 0;
        private int number = 0;

        void append(int b) {
            if (size < TAPE) {
                tape[size] = b;
                size++;
            }
        }

        /** How many ITEMS came to a shore, or -1 less the place of the FAULT. */
        int readAll(Shore to) {
            end = 0;
            advance();
            for (int items = 1; items <= TAPE; items++) {
                if (!readItem(to)) {
                    return -1 - start;
                }
                if (sort == AT_END) {
                    return items;
                }
                if (sort != SIGN) {
                    return -1 - start;
                }
                advance();
            }
            return -1 - start;
        }

        // Each of the readers below answers false while the TOKEN that can't
        // stand there is still open, so that its start is the FAULT.

        private boolean readItem(Shore to) {
            if (isWord("sun")) {
                return readSun(to);
            }
            if (isWord("goes")) {
                return readGoes(to);
            }
            int kind = kindNamed();
            if (kind < 0 || to.people >= PEOPLE) {
                return false;
            }
            advance();
            return readPerson(to, kind);
        }

        private boolean readPerson(Shore to, int kind) {
            int brown = BROWN_AT_FIRST;
            if (isWord("brown")) {
                advance();
                if (!isNumberTo(MOST_BROWN)) {
                    return false;
                }
                brown = number;
                advance();
            }
            int p = to.add(kind, brown);
            if (isWord("on")) {
                advance();
                if (!isNumberTo(CHAIRS - 1) || !to.isFreeFor(p, number)) {
                    return false;
                }
                to.seat(p, number);
                advance();
            }
            return true;
        }

        private boolean readSun(Shore to) {
            advance();
            if (!isNumberTo(PLACES - 1)) {
                return false;
            }
            int place = number;
            advance();
            if (!isNumberTo(MOST_SUN)) {
                return false;
            }
            to.suns[place] = number;
            advance();
            return true;
        }

        private boolean readGoes(Shore to) {
            advance();
            if (!isNumberTo(to.people - 1)) {
                return false;
            }
            to.seat(number, -1);
            advance();
            return true;
        }

        private boolean isNumberTo(int most) {
            return sort == NUMBER && number <= most;
        }

        private boolean isWord(String word) {
            if (sort != WORD || end - start != word.length()) {
                return false;
            }
            for (int i = 0; i < word.length(); i++) {
                if (tape[start + i] != word.charAt(i)) {
                    return false;
                }
            }
            return true;
        }

        private int kindNamed() {
            for (int k = 0; k < KINDS; k++) {
                if (isWord(nameOf(k))) {
                    return k;
                }
            }
            return -1;
        }

        private static String nameOf(int kind) {
            switch (kind) {
                case COLONEL: return "colonel";
                case INVALID: return "invalid";
                case BORE: return "bore";
                case LOVER: return "lover";
                case FAKE: return "fake";
                default: return "guest";
            }
        }

        private void advance() {
            start = end;
            while (start < size && tape[start] == ' ') {
                start++;
            }
            end = start;
            if (start >= size) {
                sort = AT_END;
            } else if (isLetter(tape[start])) {
                sort = WORD;
                passWord();
            } else if (isDigit(tape[start])) {
                sort = NUMBER;
                passNumber();
            } else {
                sort = tape[start] == ';' ? SIGN : NO_TOKEN;
                end = start + 1;
            }
        }

        private void passWord() {
            while (end < size && isLetter(tape[end])) {
                end++;
            }
        }

        private void passNumber() {
            number = 0;
            while (end < size && isDigit(tape[end])) {
                // Held just above the most, so that no row of digits wraps around.
                number = Math.min(MOST_NUMBER + 1, number * 10 + tape[end] - '0');
                end++;
            }
        }

        private static boolean isLetter(int b) {
            return b >= 'a' && b <= 'z';
        }

        private static boolean isDigit(int b) {
            return b >= '0' && b <= '9';
        }
    }
}
