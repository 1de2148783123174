import java.util.Arrays;

/**
 * A town under a fall of ash: who is hid in it, who forgives whom, and what the grudges come to.
 * Words in capitals are the document's terms.
 */
public final class AshGreetings {
    public static final int BAD = -1, FULL = -2, FINDING = -3, STATE = -4, SPENT = -6, NONE = -9;

    private static final int NOTHING = 1, BEYOND = 2, UNLIKE = 3, NOUGHT = 4, SIZE = 5;

    private static final int ROWS = 6, MOST_PLACES = 40;
    private static final int TEXTS = 4, MOST_BYTES = 60, BLANK = 32, BYTE_SHIFT = 1000;
    private static final int STREETS = 5, MOST_DEEP = 9, MOST_HIGH = 9, MOST_GRUDGE = 9;
    private static final int LEAST_PEOPLE = 2, MOST_PEOPLE = 7, ITEM = 5, NOBODY = -1;
    private static final int KINDS = 6, FACTS = 7, COUNTS = 12;
    private static final int MOST_DEEDS = 40, LAST_DAY = 99, KEPT = 3;
    private static final int FAR_DAYS = 60, PEACE_DAYS = 120, PLAN_DAYS = 40, CHANCE_DAYS = 20;
    private static final int LOOKS = 20, MOST_TOTAL = 63, TURNS = 3, DUEL_DAYS = 6, PARTS = 12;
    private static final int MOST_LOTS = 20;
    private static final long LOT_FACTOR = 48271, LOT_MODULUS = 2147483647;

    private static final int APART = 0, FORGIVES = 1, ANGERED = 2;
    private static final int IDLE = 0, DAY = 1, FALL = 2, WIND = 3, GO = 4;

    private final Strip[] rows = new Strip[ROWS];
    private final Strip[] texts = new Strip[TEXTS];
    private final Reading reading = new Reading();
    private final Town town = new Town();
    private final Town[] keptTowns = new Town[KEPT];
    private final Outlook outlook = new Outlook();
    private final int[] timesFound = new int[SIZE + 1];
    private int lastFound = 0;
    private int told = 0;
    private long above = 0;
    private long below = 1;

    public AshGreetings() {
        for (int r = 0; r < ROWS; r++) {
            rows[r] = new Strip(MOST_PLACES);
        }
        for (int t = 0; t < TEXTS; t++) {
            texts[t] = new Strip(MOST_BYTES);
        }
        for (int k = 0; k < KEPT; k++) {
            keptTowns[k] = new Town();
        }
    }

    // ---- 1 rows, texts, towns

    public int row(int r, int n) {
        if (!isRow(r) || n > MOST_PLACES) {
            return BAD;
        }
        if (n < 0) {
            return foundOut(SIZE);
        }
        rows[r].open(n, 0);
        return n;
    }

    public int lay(int r, int i, int v) {
        if (!isRow(r)) {
            return BAD;
        }
        int refused = refusalOfPlace(rows[r], i);
        if (refused != 0) {
            return refused;
        }
        told = rows[r].places[i];
        rows[r].places[i] = v;
        return 1;
    }

    public int at(int r, int i) {
        if (!isRow(r)) {
            return BAD;
        }
        int refused = refusalOfPlace(rows[r], i);
        if (refused != 0) {
            return refused;
        }
        told = rows[r].places[i];
        return 1;
    }

    public int tear(int r) {
        if (!isRow(r)) {
            return BAD;
        }
        if (!rows[r].isThere()) {
            return foundOut(NOTHING);
        }
        rows[r].close();
        return 1;
    }

    public int copy(int r, int i, int to, int j, int n) {
        if (!isRow(r) || !isRow(to)) {
            return BAD;
        }
        if (n < 0) {
            return foundOut(SIZE);
        }
        if (!rows[r].isThere() || !rows[to].isThere()) {
            return foundOut(NOTHING);
        }
        if (!rows[r].hasRun(i, n) || !rows[to].hasRun(j, n)) {
            return foundOut(BEYOND);
        }
        System.arraycopy(rows[r].places, i, rows[to].places, j, n);
        return 1;
    }

    public int mean(int r) {
        if (!isRow(r)) {
            return BAD;
        }
        Strip row = rows[r];
        if (!row.isThere()) {
            return foundOut(NOTHING);
        }
        if (row.size == 0) {
            return foundOut(NOUGHT);
        }
        told = (int) (row.total() / row.size);
        return 1;
    }

    public int text(int t, int n) {
        if (!isText(t) || n > MOST_BYTES) {
            return BAD;
        }
        if (n < 0) {
            return foundOut(SIZE);
        }
        texts[t].open(n, BLANK);
        return n;
    }

    public int put(int t, int i, int v) {
        if (!isText(t)) {
            return BAD;
        }
        int refused = refusalOfPlace(texts[t], i);
        if (refused != 0) {
            return refused;
        }
        int was = texts[t].places[i];
        texts[t].places[i] = (byte) v;
        return was + BYTE_SHIFT;
    }

    public int fault(int t) {
        if (!isText(t)) {
            return BAD;
        }
        if (!texts[t].isThere()) {
            return foundOut(NOTHING);
        }
        return reading.faultOf(texts[t]);
    }

    public int town(int t) {
        if (!isText(t)) {
            return BAD;
        }
        if (!texts[t].isThere()) {
            return foundOut(NOTHING);
        }
        if (reading.faultOf(texts[t]) != NONE) {
            return STATE;
        }
        town.settle(reading);
        for (int k = 0; k < KEPT; k++) {
            keptTowns[k].people = 0;
        }
        return town.people;
    }

    public int person(int i, int what) {
        if (!isPerson(i) || what < 0 || what >= FACTS) {
            return BAD;
        }
        told = town.factOf(i, what);
        return 1;
    }

    public int deep(int c) {
        if (!isStreet(c)) {
            return BAD;
        }
        if (!town.hasPeople()) {
            return STATE;
        }
        told = town.crowdIn(c);
        return town.deeps[c];
    }

    public int mark(int i, int kind) {
        if (!isPerson(i) || kind < 1 || kind >= KINDS) {
            return BAD;
        }
        if (!isOfKind(town.sortOf(i), kind)) {
            return foundOut(UNLIKE);
        }
        switch (kind) {
            case 1:
                return (town.grudges[i] + 1) / 2;
            case 2:
                return town.sortOf(i).forgiveness(town.day);
            case 3:
                return town.highs[i] - town.sortOf(i).seenAs(town.highs[i]);
            case 4:
                return town.facesFoe(i) ? 1 : 0;
            default:
                return town.facesFoe(i) && town.grudges[i] < MOST_GRUDGE ? 1 : 0;
        }
    }

    // ---- 2 deeds

    public int day() {
        if (!town.hasPeople() || town.day >= LAST_DAY) {
            return STATE;
        }
        if (town.deeds >= MOST_DEEDS) {
            return FULL;
        }
        town.perform(DAY, 0, 0);
        return town.totalGrudge();
    }

    public int fall(int c, int n) {
        if (!isStreet(c) || n < 1 || n > MOST_DEEP) {
            return BAD;
        }
        if (!town.hasPeople() || town.deeps[c] >= MOST_DEEP) {
            return STATE;
        }
        if (town.deeds >= MOST_DEEDS) {
            return FULL;
        }
        town.perform(FALL, c, n);
        return town.deeps[c];
    }

    public int wind(int c) {
        if (!isStreet(c)) {
            return BAD;
        }
        if (!town.hasPeople() || town.deeps[c] == 0) {
            return STATE;
        }
        if (town.deeds >= MOST_DEEDS) {
            return FULL;
        }
        int lay = town.deeps[c];
        town.perform(WIND, c, 0);
        return lay;
    }

    public int go(int i, int c) {
        if (!isPerson(i) || !isStreet(c)) {
            return BAD;
        }
        if (town.streets[i] == c) {
            return STATE;
        }
        if (town.deeds >= MOST_DEEDS) {
            return FULL;
        }
        int from = town.streets[i];
        town.perform(GO, i, c);
        return from;
    }

    public int undo(int n) {
        if (n < 0 || n > town.deeds) {
            return BAD;
        }
        int undone = town.deeds - n;
        town.goBackTo(n);
        return undone;
    }

    public int keep(int k) {
        if (!isKeepingPlace(k)) {
            return BAD;
        }
        if (!town.hasPeople()) {
            return STATE;
        }
        keptTowns[k].become(town);
        return town.deeds;
    }

    public int on(int k) {
        if (!isKeepingPlace(k)) {
            return BAD;
        }
        if (!keptTowns[k].hasPeople()) {
            return foundOut(NOTHING);
        }
        town.become(keptTowns[k]);
        return town.deeds;
    }

    // ---- 3 what comes

    public int meets() {
        int who = 0;
        int forgiving = 0;
        for (int i = 0; i < town.people; i++) {
            int mood = town.moodOf(i);
            if (mood != APART) {
                who |= 1 << i;
            }
            if (mood == FORGIVES) {
                forgiving++;
            }
        }
        told = forgiving;
        return who;
    }

    public int later(int i, int n) {
        if (!isPerson(i) || n < 0 || n > FAR_DAYS) {
            return BAD;
        }
        outlook.lookAt(town);
        told = outlook.totalBehind(n);
        return outlook.grudges[i];
    }

    public int peace() {
        if (!town.hasPeople()) {
            return STATE;
        }
        outlook.lookAt(town);
        return passOn(outlook.daysTillPeace());
    }

    public int left(int n) {
        if (n < 0 || n > FAR_DAYS) {
            return BAD;
        }
        if (!town.hasPeople()) {
            return STATE;
        }
        outlook.lookAt(town);
        int total = outlook.totalBehind(n);
        told = outlook.howManyAtPeace();
        return total;
    }

    // ---- 4 what to do

    public int ash(int n) {
        if (n < 1 || n > PLAN_DAYS) {
            return BAD;
        }
        if (!town.hasPeople()) {
            return STATE;
        }
        outlook.lookAt(town);
        return passOn(outlook.bestDepth(n));
    }

    public int best(int n) {
        if (n < 1 || n > PLAN_DAYS) {
            return BAD;
        }
        if (!town.hasPeople()) {
            return STATE;
        }
        outlook.lookAt(town);
        return passOn(outlook.bestMove(n));
    }

    // ---- 5 who it is

    public int kinds(int i, int r) {
        int refused = refusalOfRecord(i, r);
        if (refused != 0) {
            return refused;
        }
        outlook.lookAt(town);
        return outlook.kindsThatFit(i, rows[r]);
    }

    public int highs(int i, int r) {
        int refused = refusalOfRecord(i, r);
        if (refused != 0) {
            return refused;
        }
        outlook.lookAt(town);
        return outlook.heightsThatFit(i, rows[r]);
    }

    public int test(int i, int r) {
        int refused = refusalOfRecord(i, r);
        if (refused != 0) {
            return refused;
        }
        outlook.lookAt(town);
        return passOn(outlook.bestLook(i, rows[r]));
    }

    // ---- 6 by turns

    public int duel(int n) {
        if (n < 0 || n > TURNS) {
            return BAD;
        }
        if (!town.hasPeople()) {
            return STATE;
        }
        outlook.lookAt(town);
        return outlook.leastByAsh(n);
    }

    // ---- 7 chances, lots

    public int odds(int k, int n, int p) {
        if (k < 0 || k > MOST_TOTAL || !areChances(n, p)) {
            return BAD;
        }
        if (!town.hasPeople()) {
            return STATE;
        }
        outlook.lookAt(town);
        outlook.weighWinds(k, n, p);
        tellInLowestTerms(outlook.weightOfFew, outlook.weightOfAll);
        return 1;
    }

    public int mid(int n, int p) {
        if (!areChances(n, p)) {
            return BAD;
        }
        if (!town.hasPeople()) {
            return STATE;
        }
        outlook.lookAt(town);
        outlook.weighWinds(0, n, p);
        tellInLowestTerms(outlook.weightedTotal, outlook.weightOfAll);
        return 1;
    }

    public int lots(int n, int seed) {
        if (n < 1 || n > MOST_LOTS || seed < 1 || seed >= LOT_MODULUS) {
            return BAD;
        }
        if (!town.hasPeople()) {
            return STATE;
        }
        if (town.deeds + n > MOST_DEEDS) {
            return FULL;
        }
        long lot = seed;
        for (int d = 0; d < n; d++) {
            lot = lot * LOT_FACTOR % LOT_MODULUS;
            performByLot(lot);
        }
        return town.totalGrudge();
    }

    // ---- 8 what is told

    public int asked() {
        return told;
    }

    public long upper() {
        return above;
    }

    public long lower() {
        return below;
    }

    public int count(int what) {
        switch (what) {
            case 0:
                return town.people;
            case 1:
                return town.day;
            case 2:
                return town.deeds;
            case 3:
                return town.totalGrudge();
            case 4:
                return town.whoIsHid();
            case 5:
                return town.whoIsAtPeace();
            case 6:
                return town.totalDeep();
            case 7:
                return howManyAreThere(rows);
            case 8:
                return howManyAreThere(texts);
            case 9:
                return howManyAreKept();
            case 10:
                return howManyOfKind(1);
            case 11:
                return howManyOfKind(2);
            default:
                return BAD;
        }
    }

    public int finding() {
        return lastFound;
    }

    public int findings(int f) {
        if (f < NOTHING || f > SIZE) {
            return BAD;
        }
        return timesFound[f];
    }

    public long digest() {
        long h = 17;
        for (int what = 0; what < COUNTS; what++) {
            h = 31 * h + count(what);
        }
        for (int i = 0; i < town.people; i++) {
            for (int what = 0; what < FACTS; what++) {
                h = 31 * h + town.factOf(i, what);
            }
        }
        for (int c = 0; c < STREETS; c++) {
            h = 31 * h + town.deeps[c];
        }
        for (int k = 0; k < KEPT; k++) {
            h = 31 * h + (keptTowns[k].hasPeople() ? keptTowns[k].deeds : -1);
        }
        for (int r = 0; r < ROWS; r++) {
            h = rows[r].digestedInto(h);
        }
        for (int t = 0; t < TEXTS; t++) {
            h = texts[t].digestedInto(h);
        }
        return h;
    }

    // ---- which numbers are ones

    private boolean isRow(int r) {
        return r >= 0 && r < ROWS;
    }

    private boolean isText(int t) {
        return t >= 0 && t < TEXTS;
    }

    private boolean isStreet(int c) {
        return c >= 0 && c < STREETS;
    }

    private boolean isPerson(int i) {
        return i >= 0 && i < town.people;
    }

    private boolean isKeepingPlace(int k) {
        return k >= 0 && k < KEPT;
    }

    private boolean areChances(int n, int p) {
        return n >= 0 && n <= CHANCE_DAYS && p >= 0 && p <= PARTS;
    }

    private boolean isOfKind(Neighbour one, int kind) {
        switch (kind) {
            case 1:
                return one instanceof Devout;
            case 2:
                return one instanceof Stubborn;
            case 3:
                return one instanceof ShortOne;
            case 4:
                return one instanceof Priest;
            case 5:
                return one instanceof Brother;
            default:
                return true;
        }
    }

    // ---- refusing and telling

    private int foundOut(int which) {
        lastFound = which;
        if (which >= NOTHING && which <= SIZE) {
            timesFound[which]++;
        }
        return FINDING;
    }

    /** 0 if the ROW or TEXT has such a place. */
    private int refusalOfPlace(Strip strip, int i) {
        if (!strip.isThere()) {
            return foundOut(NOTHING);
        }
        return strip.has(i) ? 0 : foundOut(BEYOND);
    }

    /** 0 if kinds(), highs(), test() may go on with this one and this ROW. */
    private int refusalOfRecord(int i, int r) {
        if (!isPerson(i) || !isRow(r)) {
            return BAD;
        }
        Strip row = rows[r];
        if (!row.isThere()) {
            return foundOut(NOTHING);
        }
        if (row.size < 1 || row.size > LOOKS) {
            return foundOut(SIZE);
        }
        for (int d = 0; d < row.size; d++) {
            if (row.places[d] < 0 || row.places[d] > MOST_TOTAL) {
                return foundOut(UNLIKE);
            }
        }
        return 0;
    }

    /** NONE leaves asked() as it was, so only another answer hands on what the outlook told. */
    private int passOn(int answer) {
        if (answer != NONE) {
            told = outlook.told;
        }
        return answer;
    }

    private void tellInLowestTerms(long up, long down) {
        long shared = greatestShared(up, down);
        if (shared > 0) {
            above = up / shared;
            below = down / shared;
        }
    }

    private static long greatestShared(long a, long b) {
        long x = a;
        long y = b;
        // Two longs never need as many as a hundred steps.
        for (int step = 0; step < 100 && y != 0; step++) {
            long rest = x % y;
            x = y;
            y = rest;
        }
        return x;
    }

    // ---- lots, counting

    /** What can't be is a deed all the same (of nothing), so that n lots are always n deeds. */
    private void performByLot(long lot) {
        int c = (int) (lot / 8 % STREETS);
        int choice = (int) (lot % 8);
        if (choice == 0) {
            town.perform(town.deeps[c] > 0 ? WIND : IDLE, c, 0);
        } else if (choice <= 2) {
            town.perform(town.deeps[c] < MOST_DEEP ? FALL : IDLE, c, 1);
        } else if (choice == 3) {
            int i = town.people > 0 ? (int) (lot / 64 % town.people) : 0;
            town.perform(town.streets[i] != c ? GO : IDLE, i, c);
        } else {
            town.perform(town.day < LAST_DAY ? DAY : IDLE, 0, 0);
        }
    }

    private static int howManyAreThere(Strip[] strips) {
        int many = 0;
        for (Strip strip : strips) {
            if (strip.isThere()) {
                many++;
            }
        }
        return many;
    }

    private int howManyAreKept() {
        int many = 0;
        for (int k = 0; k < KEPT; k++) {
            if (keptTowns[k].hasPeople()) {
                many++;
            }
        }
        return many;
    }

    private int howManyOfKind(int kind) {
        int many = 0;
        for (int i = 0; i < town.people; i++) {
            if (isOfKind(town.sortOf(i), kind)) {
                many++;
            }
        }
        return many;
    }

    /** A ROW or a TEXT. Its places are made once, so that opening it anew costs no room. */
    static final class Strip {
        final int[] places;
        int size = -1;

        Strip(int most) {
            places = new int[Math.max(0, most)];
        }

        boolean isThere() {
            return size >= 0;
        }

        boolean has(int i) {
            return i >= 0 && i < size;
        }

        /** Told by a difference, as a sum of two great ints would wrap around. */
        boolean hasRun(int i, int n) {
            return i >= 0 && n >= 0 && n <= size && i <= size - n;
        }

        void open(int n, int filling) {
            size = Math.min(n, places.length);
            Arrays.fill(places, filling);
        }

        void close() {
            size = -1;
        }

        long total() {
            long sum = 0;
            for (int i = 0; i < size; i++) {
                sum += places[i];
            }
            return sum;
        }

        long digestedInto(long h) {
            long g = 31 * h + size;
            for (int i = 0; i < size; i++) {
                g = 31 * g + places[i];
            }
            return g;
        }
    }

    /**
     * What a TEXT says of a TOWN. The first item and each of the PEOPLE have five signs, so a
     * sign's number alone tells what it must be.
     */
    static final class Reading {
        private static final char[] LETTERS = {'n', 'd', 's', 'h', 'p', 'b'};
        final int[] values = new int[ITEM * (MOST_PEOPLE + 1)];
        int signs;

        int faultOf(Strip text) {
            signs = 0;
            for (int place = 0; place < text.size; place++) {
                int sign = text.places[place];
                if (sign == BLANK && signs % ITEM == 0) {
                    continue;
                }
                int value = valueOf(sign);
                if (value < 0) {
                    return place;
                }
                values[signs] = value;
                signs++;
            }
            boolean isWhole = signs % ITEM == 0 && howManyPeople() >= LEAST_PEOPLE;
            return isWhole ? NONE : text.size;
        }

        int howManyPeople() {
            return signs / ITEM - 1;
        }

        /** -1 if the sign can't stand next. */
        private int valueOf(int sign) {
            if (signs >= values.length) {
                return -1;
            }
            if (signs < ITEM) {
                return figure(sign, MOST_DEEP);
            }
            int part = signs % ITEM;
            if (part == 0) {
                return kindOf(sign);
            }
            return figure(sign, part == ITEM - 1 ? STREETS - 1 : 9);
        }

        private static int figure(int sign, int most) {
            int value = sign - '0';
            return value >= 0 && value <= most ? value : -1;
        }

        private static int kindOf(int sign) {
            for (int kind = 0; kind < LETTERS.length; kind++) {
                if (LETTERS[kind] == sign) {
                    return kind;
                }
            }
            return -1;
        }
    }

    /** How one of a KIND behaves; it holds nothing, so a TOWN needs one object of each KIND. */
    static class Neighbour {
        int seenAs(int high) {
            return high;
        }

        boolean forgivesAll() {
            return false;
        }

        int forgiveness(int day) {
            return 1;
        }

        int anger() {
            return 1;
        }

        final int grudgeBehind(int grudge, int mood, int day) {
            if (mood == FORGIVES) {
                return Math.max(0, grudge - forgiveness(day));
            }
            if (mood == ANGERED) {
                return Math.min(MOST_GRUDGE, grudge + anger());
            }
            return grudge;
        }
    }

    static class Devout extends Neighbour {
        @Override
        int forgiveness(int day) {
            return 2;
        }
    }

    static class Stubborn extends Neighbour {
        @Override
        int forgiveness(int day) {
            return day % 2 == 0 ? 1 : 0;
        }
    }

    static final class ShortOne extends Neighbour {
        @Override
        int seenAs(int high) {
            return high > 2 ? high - 2 : 0;
        }
    }

    static final class Priest extends Devout {
        @Override
        boolean forgivesAll() {
            return true;
        }
    }

    static final class Brother extends Stubborn {
        @Override
        int anger() {
            return 0;
        }
    }

    /** A TOWN as it is, as it was first, and the DEEDS that lead from the one to the other. */
    static final class Town {
        int people = 0;
        int day = 0;
        int deeds = 0;
        private final Neighbour[] sorts = {
            new Neighbour(), new Devout(), new Stubborn(), new ShortOne(), new Priest(), new Brother()
        };
        final int[] kinds = new int[MOST_PEOPLE];
        final int[] highs = new int[MOST_PEOPLE];
        final int[] foes = new int[MOST_PEOPLE];
        final int[] grudges = new int[MOST_PEOPLE];
        final int[] streets = new int[MOST_PEOPLE];
        final int[] deeps = new int[STREETS];
        final int[] firstGrudges = new int[MOST_PEOPLE];
        final int[] firstStreets = new int[MOST_PEOPLE];
        final int[] firstDeeps = new int[STREETS];
        final int[] deedKinds = new int[MOST_DEEDS];
        final int[] deedPlaces = new int[MOST_DEEDS];
        final int[] deedAims = new int[MOST_DEEDS];

        /** A TOWN without any is no TOWN: none was read yet, or none is kept in its place. */
        boolean hasPeople() {
            return people > 0;
        }

        Neighbour sortOf(int i) {
            return sorts[kinds[i]];
        }

        void settle(Reading said) {
            people = Math.max(0, Math.min(MOST_PEOPLE, said.howManyPeople()));
            for (int c = 0; c < STREETS; c++) {
                firstDeeps[c] = said.values[c];
            }
            for (int i = 0; i < people; i++) {
                int from = ITEM * (i + 1);
                kinds[i] = said.values[from];
                highs[i] = said.values[from + 1];
                foes[i] = further(i, said.values[from + 2]);
                firstGrudges[i] = said.values[from + 3];
                firstStreets[i] = said.values[from + 4];
            }
            deeds = 0;
            startAnew();
        }

        private int further(int i, int numbers) {
            if (people < 1) {
                return NOBODY;
            }
            int other = (i + numbers) % people;
            return other == i ? NOBODY : other;
        }

        private void startAnew() {
            day = 0;
            System.arraycopy(firstDeeps, 0, deeps, 0, STREETS);
            System.arraycopy(firstGrudges, 0, grudges, 0, MOST_PEOPLE);
            System.arraycopy(firstStreets, 0, streets, 0, MOST_PEOPLE);
        }

        void become(Town other) {
            becomeAside(other);
            System.arraycopy(other.firstGrudges, 0, firstGrudges, 0, MOST_PEOPLE);
            System.arraycopy(other.firstStreets, 0, firstStreets, 0, MOST_PEOPLE);
            System.arraycopy(other.firstDeeps, 0, firstDeeps, 0, STREETS);
            deeds = other.deeds;
            System.arraycopy(other.deedKinds, 0, deedKinds, 0, MOST_DEEDS);
            System.arraycopy(other.deedPlaces, 0, deedPlaces, 0, MOST_DEEDS);
            System.arraycopy(other.deedAims, 0, deedAims, 0, MOST_DEEDS);
        }

        /** Takes over how it is, not how it came to be: enough to look ahead. */
        void becomeAside(Town other) {
            people = other.people;
            day = other.day;
            System.arraycopy(other.kinds, 0, kinds, 0, MOST_PEOPLE);
            System.arraycopy(other.highs, 0, highs, 0, MOST_PEOPLE);
            System.arraycopy(other.foes, 0, foes, 0, MOST_PEOPLE);
            System.arraycopy(other.grudges, 0, grudges, 0, MOST_PEOPLE);
            System.arraycopy(other.streets, 0, streets, 0, MOST_PEOPLE);
            System.arraycopy(other.deeps, 0, deeps, 0, STREETS);
        }

        void perform(int deed, int place, int aim) {
            if (deeds < MOST_DEEDS) {
                deedKinds[deeds] = deed;
                deedPlaces[deeds] = place;
                deedAims[deeds] = aim;
                carryOut(deeds);
                deeds++;
            }
        }

        /** From the first on again: a GRUDGE that stayed at 0 or 9 does not tell what it was. */
        void goBackTo(int n) {
            deeds = Math.max(0, Math.min(n, deeds));
            startAnew();
            for (int d = 0; d < deeds; d++) {
                carryOut(d);
            }
        }

        private void carryOut(int d) {
            int place = deedPlaces[d];
            switch (deedKinds[d]) {
                case DAY:
                    passDay();
                    break;
                case FALL:
                    deeps[place] = Math.min(MOST_DEEP, deeps[place] + deedAims[d]);
                    break;
                case WIND:
                    deeps[place] = 0;
                    break;
                case GO:
                    streets[place] = deedAims[d];
                    break;
                default:
                    break;
            }
        }

        /** One by one is as good as all at once: no mood depends on a GRUDGE. */
        private void passDay() {
            for (int i = 0; i < people; i++) {
                grudges[i] = sortOf(i).grudgeBehind(grudges[i], moodOf(i), day);
            }
            day++;
        }

        int moodOf(int i) {
            if (!meetsFoe(i)) {
                return APART;
            }
            return sortOf(i).forgivesAll() || isHid(foes[i]) ? FORGIVES : ANGERED;
        }

        boolean facesFoe(int i) {
            return meetsFoe(i) && !isHid(foes[i]);
        }

        boolean isHid(int i) {
            return sortOf(i).seenAs(highs[i]) <= deeps[streets[i]];
        }

        /**
         * Two of one STREET meet, if nobody stands between them, or if they are its first and its
         * last one, which is to say that nobody stands but between them.
         */
        boolean meetsFoe(int i) {
            int foe = foes[i];
            if (foe == NOBODY || streets[foe] != streets[i]) {
                return false;
            }
            boolean hasBetween = false;
            boolean hasOutside = false;
            for (int k = 0; k < people; k++) {
                if (streets[k] == streets[i] && k != i && k != foe) {
                    if (k > Math.min(i, foe) && k < Math.max(i, foe)) {
                        hasBetween = true;
                    } else {
                        hasOutside = true;
                    }
                }
            }
            return !hasBetween || !hasOutside;
        }

        int factOf(int i, int what) {
            switch (what) {
                case 0:
                    return kinds[i];
                case 1:
                    return highs[i];
                case 2:
                    return foes[i];
                case 3:
                    return grudges[i];
                case 4:
                    return streets[i];
                case 5:
                    return isHid(i) ? 1 : 0;
                default:
                    return meetsFoe(i) ? 1 : 0;
            }
        }

        int crowdIn(int c) {
            int many = 0;
            for (int i = 0; i < people; i++) {
                if (streets[i] == c) {
                    many++;
                }
            }
            return many;
        }

        int totalGrudge() {
            int total = 0;
            for (int i = 0; i < people; i++) {
                total += grudges[i];
            }
            return total;
        }

        int totalDeep() {
            int total = 0;
            for (int c = 0; c < STREETS; c++) {
                total += deeps[c];
            }
            return total;
        }

        int whoIsHid() {
            int who = 0;
            for (int i = 0; i < people; i++) {
                if (isHid(i)) {
                    who |= 1 << i;
                }
            }
            return who;
        }

        int whoIsAtPeace() {
            int who = 0;
            for (int i = 0; i < people; i++) {
                if (grudges[i] == 0) {
                    who |= 1 << i;
                }
            }
            return who;
        }
    }

    /**
     * What is thought over aside, on a TOWN of its own that may be changed at will. Moods are found
     * out once for all days to come, as nothing else is done on them.
     */
    static final class Outlook {
        private final Town aside = new Town();
        private final int[] moods = new int[MOST_PEOPLE];
        private final int[] lyingNow = new int[STREETS];
        private final int[][] totals = new int[KINDS][LOOKS + 1];
        final int[] grudges = new int[MOST_PEOPLE];
        private int day = 0;
        int told = 0;
        long weightOfFew = 0;
        long weightedTotal = 0;
        long weightOfAll = 1;

        void lookAt(Town town) {
            aside.becomeAside(town);
        }

        private void startFromNow() {
            day = aside.day;
            for (int i = 0; i < aside.people; i++) {
                moods[i] = aside.moodOf(i);
                grudges[i] = aside.grudges[i];
            }
        }

        private void foreseeDay() {
            for (int i = 0; i < aside.people; i++) {
                grudges[i] = aside.sortOf(i).grudgeBehind(grudges[i], moods[i], day);
            }
            day++;
        }

        private int total() {
            int total = 0;
            for (int i = 0; i < aside.people; i++) {
                total += grudges[i];
            }
            return total;
        }

        int howManyAtPeace() {
            int many = 0;
            for (int i = 0; i < aside.people; i++) {
                if (grudges[i] == 0) {
                    many++;
                }
            }
            return many;
        }

        int totalBehind(int n) {
            startFromNow();
            for (int d = 0; d < n; d++) {
                foreseeDay();
            }
            return total();
        }

        int daysTillPeace() {
            int most = 0;
            startFromNow();
            for (int d = 0; d <= PEACE_DAYS; d++) {
                int total = total();
                most = Math.max(most, total);
                if (total == 0) {
                    told = most;
                    return d;
                }
                foreseeDay();
            }
            return NONE;
        }

        int bestDepth(int n) {
            int best = NONE;
            for (int depth = 0; depth <= MOST_DEEP; depth++) {
                Arrays.fill(aside.deeps, depth);
                int total = totalBehind(n);
                if (best == NONE || total < told) {
                    best = depth;
                    told = total;
                }
            }
            return best;
        }

        int bestMove(int n) {
            int best = NONE;
            int least = totalBehind(n);
            for (int i = 0; i < aside.people; i++) {
                int home = aside.streets[i];
                for (int c = 0; c < STREETS; c++) {
                    aside.streets[i] = c;
                    int total = totalBehind(n);
                    if (total < least) {
                        least = total;
                        best = 10 * i + c;
                    }
                }
                aside.streets[i] = home;
            }
            told = least;
            return best;
        }

        int kindsThatFit(int i, Strip row) {
            int own = aside.kinds[i];
            int fitting = 0;
            for (int kind = 0; kind < KINDS; kind++) {
                aside.kinds[i] = kind;
                if (fits(row)) {
                    fitting |= 1 << kind;
                }
            }
            aside.kinds[i] = own;
            return fitting;
        }

        int heightsThatFit(int i, Strip row) {
            int own = aside.highs[i];
            int fitting = 0;
            for (int high = 0; high <= MOST_HIGH; high++) {
                aside.highs[i] = high;
                if (fits(row)) {
                    fitting |= 1 << high;
                }
            }
            aside.highs[i] = own;
            return fitting;
        }

        private boolean fits(Strip row) {
            startFromNow();
            for (int d = 0; d < row.size; d++) {
                foreseeDay();
                if (total() != row.places[d]) {
                    return false;
                }
            }
            return true;
        }

        int bestLook(int i, Strip row) {
            int fitting = kindsThatFit(i, row);
            if (fitting == 0) {
                return NONE;
            }
            foretellEach(i);
            int best = NONE;
            for (int d = 1; d <= LOOKS; d++) {
                int part = greatestPart(fitting, d);
                if (best == NONE || part < told) {
                    best = d;
                    told = part;
                }
            }
            return best;
        }

        private void foretellEach(int i) {
            for (int kind = 0; kind < KINDS; kind++) {
                aside.kinds[i] = kind;
                startFromNow();
                for (int d = 1; d <= LOOKS; d++) {
                    foreseeDay();
                    totals[kind][d] = total();
                }
            }
        }

        /** Of the KINDS in a set: how many at most a look at the GRUDGES then leaves together. */
        private int greatestPart(int fitting, int d) {
            int greatest = 0;
            for (int kind = 0; kind < KINDS; kind++) {
                int alike = 0;
                for (int other = 0; other < KINDS; other++) {
                    boolean isIn = (fitting >> kind & fitting >> other & 1) == 1;
                    if (isIn && totals[kind][d] == totals[other][d]) {
                        alike++;
                    }
                }
                greatest = Math.max(greatest, alike);
            }
            return greatest;
        }

        /** The ash's turn, of so many that are left; as there are few, each way is tried out. */
        private int leastByAsh(int turns) {
            if (turns < 1 || turns > TURNS) {
                return totalBehind(DUEL_DAYS);
            }
            int least = mostByWind(turns - 1);
            for (int c = 0; c < STREETS; c++) {
                int lay = aside.deeps[c];
                // Where it is 9 deep no more falls: that is to do nothing, which has been tried.
                if (lay < MOST_DEEP) {
                    aside.deeps[c] = lay + 1;
                    least = Math.min(least, mostByWind(turns - 1));
                    aside.deeps[c] = lay;
                }
            }
            return least;
        }

        private int mostByWind(int turns) {
            if (turns < 1 || turns > TURNS) {
                return totalBehind(DUEL_DAYS);
            }
            int most = leastByAsh(turns - 1);
            for (int c = 0; c < STREETS; c++) {
                int lay = aside.deeps[c];
                if (lay > 0) {
                    aside.deeps[c] = 0;
                    most = Math.max(most, leastByAsh(turns - 1));
                    aside.deeps[c] = lay;
                }
            }
            return most;
        }

        /** All sets of cleared STREETS, each by its weight out of PARTS to the power STREETS. */
        void weighWinds(int few, int n, int p) {
            System.arraycopy(aside.deeps, 0, lyingNow, 0, STREETS);
            weightOfFew = 0;
            weightedTotal = 0;
            weightOfAll = 0;
            for (int cleared = 0; cleared < 1 << STREETS; cleared++) {
                long weight = 1;
                for (int c = 0; c < STREETS; c++) {
                    boolean isCleared = (cleared >> c & 1) == 1;
                    weight *= isCleared ? p : PARTS - p;
                    aside.deeps[c] = isCleared ? 0 : lyingNow[c];
                }
                if (weight > 0) {
                    int total = totalBehind(n);
                    weightOfAll += weight;
                    weightedTotal += weight * total;
                    weightOfFew += total <= few ? weight : 0;
                }
            }
        }
    }
}
