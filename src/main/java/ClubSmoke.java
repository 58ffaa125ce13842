/** The talk of a club and the smoke that hangs above it, as ../shared/DOC.md promises it. */
public final class ClubSmoke {
    public static final int BAD = -1, FULL = -2, FINDING = -3, STATE = -4, SPENT = -6, NONE = -9;

    private static final int NOTHING = 1, BEYOND = 2, UNLIKE = 3, NOUGHT = 4, SIZE = 5;
    private static final int ROW_COUNT = 6, ROW_MOST = 40;
    private static final int TEXT_COUNT = 4, TEXT_MOST = 60, BLANK = 32;
    private static final int KEPT_COUNT = 3;
    private static final int CELLS_MOST = 8, MEMBERS_MOST = 6;
    private static final int MEANT_MOST = 99, SMOKE_MOST = 999;
    private static final int ALL_SMOKE_MOST = CELLS_MOST * SMOKE_MOST;
    private static final int ALL_BREATH_MOST = MEMBERS_MOST * MEANT_MOST;
    private static final int TALKING = 0, HOUR = 1, WINDOW = 2, THUNDER = 3;
    private static final int SAYINGS_MOST = 3, NOTES_MOST = 8, TURNS_MOST = 2;
    private static final int HOURS_ASKED_MOST = 60, HOURS_CHANCED_MOST = 6, CHANCES = 12;
    private static final int LOTS_MOST = 20, LOT_FACTOR = 48271, LOT_MODULUS = 2147483647;
    private static final int COUNTS = 13, MEMBER_FACTS = 4;

    private final Row[] rows;
    private final Row[] texts;
    private final Club club;
    private final Deeds deeds;
    private final Deeds[] kept;
    private final Turns turns;
    private final int[] breaths;
    private final long[] worth;
    private final int[] findingCounts;
    private int latestFinding;
    private int told;
    private long toldUpper;
    private long toldLower;

    public ClubSmoke() {
        rows = shelf(ROW_COUNT, ROW_MOST);
        texts = shelf(TEXT_COUNT, TEXT_MOST);
        club = new Club();
        deeds = new Deeds();
        deeds.size = 0;
        kept = new Deeds[KEPT_COUNT];
        for (int k = 0; k < kept.length; k++) {
            kept[k] = new Deeds();
        }
        turns = new Turns();
        breaths = new int[MEMBERS_MOST];
        worth = new long[HOURS_CHANCED_MOST + 1];
        findingCounts = new int[SIZE + 1];
        toldLower = 1;
    }

    // ---- 1 rows, texts, clubs

    public int row(int r, int n) {
        return renewed(lookUp(rows, r), n, ROW_MOST, 0);
    }

    public int lay(int r, int i, int v) {
        Row row = lookUp(rows, r);
        if (row == null) {
            return BAD;
        }
        int refusal = refusedPlace(row, i);
        if (refusal != 0) {
            return refusal;
        }
        told = row.read(i);
        row.write(i, v);
        return 1;
    }

    public int at(int r, int i) {
        Row row = lookUp(rows, r);
        if (row == null) {
            return BAD;
        }
        int refusal = refusedPlace(row, i);
        if (refusal != 0) {
            return refusal;
        }
        told = row.read(i);
        return 1;
    }

    public int tear(int r) {
        Row row = lookUp(rows, r);
        if (row == null) {
            return BAD;
        }
        if (!row.isThere()) {
            return found(NOTHING);
        }
        row.size = Row.MISSING;
        return 1;
    }

    public int copy(int r, int i, int to, int j, int n) {
        Row from = lookUp(rows, r);
        Row into = lookUp(rows, to);
        if (from == null || into == null) {
            return BAD;
        }
        if (n < 0) {
            return found(SIZE);
        }
        if (!from.isThere() || !into.isThere()) {
            return found(NOTHING);
        }
        if (!from.holds(i, n) || !into.holds(j, n)) {
            return found(BEYOND);
        }
        System.arraycopy(from.places, i, into.places, j, n);
        return 1;
    }

    public int mean(int r) {
        Row row = lookUp(rows, r);
        if (row == null) {
            return BAD;
        }
        if (!row.isThere()) {
            return found(NOTHING);
        }
        if (row.size == 0) {
            return found(NOUGHT);
        }
        long sum = 0;
        for (int i = 0; i < row.size; i++) {
            sum += row.read(i);
        }
        told = (int) (sum / row.size);
        return 1;
    }

    public int text(int t, int n) {
        return renewed(lookUp(texts, t), n, TEXT_MOST, BLANK);
    }

    public int put(int t, int i, int v) {
        Row text = lookUp(texts, t);
        if (text == null) {
            return BAD;
        }
        int refusal = refusedPlace(text, i);
        if (refusal != 0) {
            return refusal;
        }
        int was = text.read(i);
        text.write(i, (byte) v);
        return was + 1000;
    }

    public int fault(int t) {
        Row text = lookUp(texts, t);
        if (text == null) {
            return BAD;
        }
        if (!text.isThere()) {
            return found(NOTHING);
        }
        return Script.faultOf(text);
    }

    public int club(int t) {
        Row text = lookUp(texts, t);
        if (text == null) {
            return BAD;
        }
        if (!text.isThere()) {
            return found(NOTHING);
        }
        if (Script.faultOf(text) != NONE) {
            return STATE;
        }
        Script.settle(text, club);
        club.freshen();
        deeds.size = 0;
        for (int k = 0; k < kept.length; k++) {
            kept[k].size = Deeds.MISSING;
        }
        return club.members;
    }

    public int member(int i, int what) {
        if (!club.hasMember(i) || !within(what, 0, MEMBER_FACTS - 1)) {
            return BAD;
        }
        told = memberFact(i, what);
        return 1;
    }

    public int mark(int i, int kind) {
        if (!club.hasMember(i) || !within(kind, Kind.BISHOP, Kind.VICAR)) {
            return BAD;
        }
        int own = club.kinds[i];
        if (!Kind.isOf(own, kind)) {
            return found(UNLIKE);
        }
        switch (kind) {
            case Kind.BISHOP:
                return club.ringSmoke(i);
            case Kind.YOUNG:
                return club.otherYoungBeside(i);
            case Kind.FOREIGN:
                return club.othersWithoutBreath(i, 5);
            case Kind.ADMIRAL:
                return Kind.meaningsOf(own, 0);
            default:
                return Kind.meaningsOf(own, Kind.spoken(own, 7));
        }
    }

    public int smoke(int c) {
        return club.hasCell(c) ? club.air[c] : BAD;
    }

    // ---- 2 deeds

    public int talk(int i, int v) {
        if (!club.hasMember(i) || !isMeaning(v)) {
            return BAD;
        }
        return deeds.isFull() ? FULL : perform(TALKING, i, v);
    }

    public int hour() {
        if (club.members == 0) {
            return STATE;
        }
        return deeds.isFull() ? FULL : perform(HOUR, 0, 0);
    }

    public int open(int c) {
        if (!club.hasCell(c)) {
            return BAD;
        }
        if (club.air[c] == 0) {
            return STATE;
        }
        return deeds.isFull() ? FULL : perform(WINDOW, c, 0);
    }

    public int thunder() {
        if (club.allSmoke() == 0) {
            return STATE;
        }
        return deeds.isFull() ? FULL : perform(THUNDER, 0, 0);
    }

    public int undo(int n) {
        if (!within(n, 0, deeds.size)) {
            return BAD;
        }
        int undone = deeds.size - n;
        deeds.size = n;
        relive();
        return undone;
    }

    public int keep(int k) {
        if (!within(k, 0, kept.length - 1)) {
            return BAD;
        }
        if (club.members == 0) {
            return STATE;
        }
        kept[k].takeFrom(deeds);
        return deeds.size;
    }

    public int on(int k) {
        if (!within(k, 0, kept.length - 1)) {
            return BAD;
        }
        if (kept[k].size == Deeds.MISSING) {
            return found(NOTHING);
        }
        deeds.takeFrom(kept[k]);
        relive();
        return deeds.size;
    }

    // ---- 3 what is said, breathed (aside)

    public int says(int i, int v) {
        return club.hasMember(i) && isMeaning(v) ? Kind.spoken(club.kinds[i], v) : BAD;
    }

    public int breathes(int i, int v) {
        return club.hasMember(i) && isMeaning(v) ? Kind.breathed(club.kinds[i], v) : BAD;
    }

    public int means(int i, int s) {
        if (!club.hasMember(i) || !isMeaning(s)) {
            return BAD;
        }
        told = Kind.leastMeaningOf(club.kinds[i], s);
        return Kind.meaningsOf(club.kinds[i], s);
    }

    public int least(int i, int b) {
        if (!club.hasMember(i) || !isMeaning(b)) {
            return BAD;
        }
        for (int v = 0; v <= MEANT_MOST; v++) {
            if (Kind.breathed(club.kinds[i], v) >= b) {
                return v;
            }
        }
        return NONE;
    }

    // ---- 4 what hangs

    public int hangs(int c, int n) {
        if (!club.hasCell(c) || !within(n, 0, HOURS_ASKED_MOST)) {
            return BAD;
        }
        return club.smokeIn(c, n);
    }

    public int clear() {
        if (club.members == 0) {
            return STATE;
        }
        int fullest = club.fullestOf(club.air);
        if (fullest == 0) {
            return 0;
        }
        if (club.leak == 0) {
            return NONE;
        }
        return (fullest + club.leak - 1) / club.leak;
    }

    public int window(int w) {
        if (!within(w, 0, ALL_SMOKE_MOST)) {
            return BAD;
        }
        if (club.members == 0) {
            return STATE;
        }
        int every = (1 << club.cells) - 1;
        int best = every;
        for (int opened = 0; opened < every; opened++) {
            boolean fewer = Integer.bitCount(opened) < Integer.bitCount(best);
            if (fewer && club.smokeOutside(opened) <= w) {
                best = opened;
            }
        }
        told = best;
        return Integer.bitCount(best);
    }

    public int talks(int v, int c, int w, int r) {
        Row row = lookUp(rows, r);
        if (row == null || !isMeaning(v) || !club.hasCell(c) || !within(w, 0, SMOKE_MOST)) {
            return BAD;
        }
        for (int i = 0; i < club.members; i++) {
            breaths[i] = club.share(i, v, c);
        }
        int lines = 1;
        for (int sayings = 0; sayings <= SAYINGS_MOST; sayings++) {
            for (int line = 0; line < lines; line++) {
                if (club.air[c] + lineBreath(line, sayings) >= w) {
                    writeLine(row, line, sayings);
                    return sayings;
                }
            }
            lines *= club.members;
        }
        return NONE;
    }

    // ---- 5 by whom

    public int sets(int v, int b) {
        int refusal = refusedSets(v, b);
        if (refusal != 0) {
            return refusal;
        }
        weighBreaths(v);
        tell(setsWith(0, b), 1);
        told = firstSet(b);
        return 1;
    }

    public int sure(int v, int b) {
        int refusal = refusedSets(v, b);
        if (refusal != 0) {
            return refusal;
        }
        weighBreaths(v);
        int all = setsWith(0, b);
        if (all == 0) {
            return found(NOUGHT);
        }
        int inEach = 0;
        int inNone = 0;
        for (int i = 0; i < club.members; i++) {
            int with = setsWith(1 << i, b);
            if (with == all) {
                inEach |= 1 << i;
            }
            if (with == 0) {
                inNone |= 1 << i;
            }
        }
        told = inNone;
        return inEach;
    }

    public int ask(int v, int b) {
        int refusal = refusedSets(v, b);
        if (refusal != 0) {
            return refusal;
        }
        weighBreaths(v);
        int all = setsWith(0, b);
        if (all == 0) {
            return found(NOUGHT);
        }
        int best = 0;
        int leastLeft = all + 1;
        for (int i = 0; i < club.members; i++) {
            int with = setsWith(1 << i, b);
            int left = Math.max(with, all - with);
            if (left < leastLeft) {
                leastLeft = left;
                best = i;
            }
        }
        told = leastLeft;
        return best;
    }

    // ---- 6 by notes

    public int who(int r) {
        Row notes = lookUp(rows, r);
        if (notes == null) {
            return BAD;
        }
        int refusal = refusedNotes(notes);
        if (refusal != 0) {
            return refusal;
        }
        int able = 0;
        for (int i = 0; i < club.members; i++) {
            if (Notes.fit(notes, club.kinds[i])) {
                able |= 1 << i;
            }
        }
        return able;
    }

    public int kinds(int r) {
        Row notes = lookUp(rows, r);
        if (notes == null) {
            return BAD;
        }
        int refusal = refusedNotes(notes);
        return refusal != 0 ? refusal : Notes.fittingKinds(notes);
    }

    public int test(int r) {
        Row notes = lookUp(rows, r);
        if (notes == null) {
            return BAD;
        }
        int refusal = refusedNotes(notes);
        if (refusal != 0) {
            return refusal;
        }
        int left = Notes.fittingKinds(notes);
        if (left == 0) {
            return NONE;
        }
        int best = 0;
        int leastPart = Kind.COUNT + 1;
        for (int v = 0; v <= MEANT_MOST; v++) {
            int part = Notes.greatestPart(left, v);
            if (part < leastPart) {
                leastPart = part;
                best = v;
            }
        }
        told = leastPart;
        return best;
    }

    public int leaks(int r) {
        Row row = lookUp(rows, r);
        if (row == null) {
            return BAD;
        }
        if (!row.isThere()) {
            return found(NOTHING);
        }
        if (row.size == 0) {
            return found(SIZE);
        }
        if (!row.isAllWithin(0, SMOKE_MOST)) {
            return found(UNLIKE);
        }
        int able = 0;
        for (int leak = 0; leak <= 9; leak++) {
            if (Notes.leaksBy(row, leak)) {
                able |= 1 << leak;
            }
        }
        return able;
    }

    // ---- 7 by turns

    public int evening(int v, int n) {
        if (!isMeaning(v) || !within(n, 0, TURNS_MOST)) {
            return BAD;
        }
        if (club.members == 0) {
            return STATE;
        }
        return turns.play(club, v, n);
    }

    // ---- 8 chances, lots

    public int odds(int w, int n, int p) {
        if (!within(w, 0, ALL_SMOKE_MOST) || !areChances(n, p)) {
            return BAD;
        }
        if (club.members == 0) {
            return STATE;
        }
        for (int h = 0; h <= n; h++) {
            worth[h] = club.allSmokeIn(h) >= w ? 1 : 0;
        }
        tellWorth(n, p);
        return 1;
    }

    public int mid(int n, int p) {
        if (!areChances(n, p)) {
            return BAD;
        }
        if (club.members == 0) {
            return STATE;
        }
        for (int h = 0; h <= n; h++) {
            worth[h] = club.allSmokeIn(h);
        }
        tellWorth(n, p);
        return 1;
    }

    public int lots(int n, int seed) {
        if (!within(n, 1, LOTS_MOST) || !within(seed, 1, LOT_MODULUS - 1)) {
            return BAD;
        }
        if (club.members == 0) {
            return STATE;
        }
        if (deeds.size + n > Deeds.MOST) {
            return FULL;
        }
        int lot = seed;
        for (int k = 0; k < n; k++) {
            lot = (int) ((long) lot * LOT_FACTOR % LOT_MODULUS);
            performLot(lot);
        }
        return club.allSmoke();
    }

    // ---- 9 what is told

    public int asked() {
        return told;
    }

    public long upper() {
        return toldUpper;
    }

    public long lower() {
        return toldLower;
    }

    public int count(int what) {
        switch (what) {
            case 0:
                return club.members;
            case 1:
                return club.cells;
            case 2:
                return club.hours;
            case 3:
                return deeds.size;
            case 4:
                return club.allSmoke();
            case 5:
                return club.heard;
            case 6:
                return club.said;
            case 7:
                return club.leak;
            case 8:
                return club.membersOf(Kind.BISHOP);
            case 9:
                return club.membersOf(Kind.YOUNG);
            case 10:
                return thereOn(rows);
            case 11:
                return thereOn(texts);
            case 12:
                return keptClubs();
            default:
                return BAD;
        }
    }

    public int finding() {
        return latestFinding;
    }

    public int findings(int f) {
        return within(f, NOTHING, SIZE) ? findingCounts[f] : BAD;
    }

    public long digest() {
        long h = 17;
        for (int what = 0; what < COUNTS; what++) {
            h = 31 * h + count(what);
        }
        for (int c = 0; c < club.cells; c++) {
            h = 31 * h + club.air[c];
        }
        for (int i = 0; i < club.members; i++) {
            for (int what = 0; what < MEMBER_FACTS; what++) {
                h = 31 * h + memberFact(i, what);
            }
        }
        for (int k = 0; k < kept.length; k++) {
            h = 31 * h + kept[k].size;
        }
        return digestOf(texts, digestOf(rows, h));
    }

    // ---- what is refused

    private int found(int f) {
        latestFinding = f;
        findingCounts[f]++;
        return FINDING;
    }

    private int refusedPlace(Row row, int i) {
        if (!row.isThere()) {
            return found(NOTHING);
        }
        return row.has(i) ? 0 : found(BEYOND);
    }

    private int refusedNotes(Row notes) {
        if (!notes.isThere()) {
            return found(NOTHING);
        }
        if (notes.size % 2 != 0 || notes.size > 2 * NOTES_MOST) {
            return found(SIZE);
        }
        return notes.isAllWithin(0, MEANT_MOST) ? 0 : found(UNLIKE);
    }

    private int refusedSets(int v, int b) {
        if (!isMeaning(v) || !within(b, 0, ALL_BREATH_MOST)) {
            return BAD;
        }
        return club.members == 0 ? STATE : 0;
    }

    private static boolean within(int x, int least, int most) {
        return x >= least && x <= most;
    }

    private static boolean isMeaning(int v) {
        return within(v, 0, MEANT_MOST);
    }

    private static boolean areChances(int n, int p) {
        return within(n, 0, HOURS_CHANCED_MOST) && within(p, 0, CHANCES);
    }

    // ---- rows and texts

    private static Row[] shelf(int count, int most) {
        Row[] made = new Row[count];
        for (int i = 0; i < made.length; i++) {
            made[i] = new Row(most);
        }
        return made;
    }

    private static Row lookUp(Row[] shelf, int i) {
        return i >= 0 && i < shelf.length ? shelf[i] : null;
    }

    private int renewed(Row row, int n, int most, int filling) {
        if (row == null || n > most) {
            return BAD;
        }
        if (n < 0) {
            return found(SIZE);
        }
        row.renew(n, filling);
        return n;
    }

    private static int thereOn(Row[] shelf) {
        int there = 0;
        for (int i = 0; i < shelf.length; i++) {
            there += shelf[i].isThere() ? 1 : 0;
        }
        return there;
    }

    private static long digestOf(Row[] shelf, long before) {
        long h = before;
        for (int r = 0; r < shelf.length; r++) {
            h = 31 * h + shelf[r].size;
            for (int i = 0; i < shelf[r].size; i++) {
                h = 31 * h + shelf[r].read(i);
            }
        }
        return h;
    }

    // ---- members and deeds

    private int memberFact(int i, int what) {
        switch (what) {
            case 0:
                return club.kinds[i];
            case 1:
                return club.seats[i];
            case 2:
                return club.air[club.seats[i]];
            default:
                return club.talked[i];
        }
    }

    private int keptClubs() {
        int there = 0;
        for (int k = 0; k < kept.length; k++) {
            there += kept[k].size == Deeds.MISSING ? 0 : 1;
        }
        return there;
    }

    private int perform(int what, int whom, int meant) {
        deeds.write(what, whom, meant);
        return enact(what, whom, meant);
    }

    private int enact(int what, int whom, int meant) {
        switch (what) {
            case TALKING:
                return club.letTalk(whom, meant);
            case HOUR:
                return club.passHour();
            case WINDOW:
                return club.openCell(whom);
            default:
                return club.comeDown();
        }
    }

    /** The club is what its deeds made of it, so that deeds are all that is kept and cut off. */
    private void relive() {
        club.freshen();
        for (int n = 0; n < deeds.size; n++) {
            enact(deeds.what(n), deeds.whom(n), deeds.meant(n));
        }
    }

    private void performLot(int lot) {
        switch (lot / 8 % 8) {
            case 0:
                perform(HOUR, 0, 0);
                break;
            case 1:
                perform(WINDOW, remainder(lot, club.cells), 0);
                break;
            case 2:
                perform(THUNDER, 0, 0);
                break;
            default:
                perform(TALKING, remainder(lot, club.members), lot / 64 % 100);
                break;
        }
    }

    private static int remainder(int x, int divisor) {
        return divisor > 0 ? x % divisor : 0;
    }

    // ---- lines of members, told as numbers whose figures are the members

    private int lineBreath(int line, int sayings) {
        int sum = 0;
        int rest = line;
        for (int k = 0; k < sayings && club.members > 0; k++) {
            sum += breaths[rest % club.members];
            rest /= club.members;
        }
        return sum;
    }

    private void writeLine(Row row, int line, int sayings) {
        row.renew(sayings, 0);
        int rest = line;
        for (int k = sayings - 1; k >= 0 && club.members > 0; k--) {
            row.write(k, rest % club.members);
            rest /= club.members;
        }
    }

    // ---- sets of members, told by bits

    private void weighBreaths(int v) {
        for (int i = 0; i < club.members; i++) {
            breaths[i] = Kind.breathed(club.kinds[i], v);
        }
    }

    private int setBreath(int set) {
        int sum = 0;
        for (int i = 0; i < club.members; i++) {
            sum += (set >> i & 1) * breaths[i];
        }
        return sum;
    }

    private int setsWith(int needed, int b) {
        int fitting = 0;
        for (int set = 0; set < 1 << club.members; set++) {
            if ((set & needed) == needed && setBreath(set) == b) {
                fitting++;
            }
        }
        return fitting;
    }

    private int firstSet(int b) {
        for (int set = 0; set < 1 << club.members; set++) {
            if (setBreath(set) == b) {
                return set;
            }
        }
        return NONE;
    }

    // ---- chances

    /** From the last hour back: there thunder is sure, so each hour ahead needs only the next one. */
    private void tellWorth(int n, int p) {
        long above = worth[n];
        long below = 1;
        for (int h = n - 1; h >= 0; h--) {
            above = p * worth[h] * below + (CHANCES - p) * above;
            below *= CHANCES;
        }
        tell(above, below);
    }

    private void tell(long above, long below) {
        long divisor = commonDivisor(above, below);
        if (divisor > 0) {
            toldUpper = above / divisor;
            toldLower = below / divisor;
        }
    }

    private static long commonDivisor(long a, long b) {
        long greater = a;
        long lesser = b;
        for (int step = 0; step < 200 && lesser != 0; step++) {
            long rest = greater % lesser;
            greater = lesser;
            lesser = rest;
        }
        return greater;
    }

    /** A row of ints, or of bytes; its places are made once and used again. */
    private static final class Row {
        static final int MISSING = -1;

        final int[] places;
        int size;

        Row(int most) {
            places = new int[most];
            size = MISSING;
        }

        boolean isThere() {
            return size >= 0;
        }

        boolean has(int i) {
            return i >= 0 && i < size && i < places.length;
        }

        boolean holds(int i, int n) {
            return i >= 0 && n >= 0 && n <= size && i <= size - n;
        }

        int read(int i) {
            return has(i) ? places[i] : 0;
        }

        void write(int i, int v) {
            if (has(i)) {
                places[i] = v;
            }
        }

        void renew(int n, int filling) {
            size = Math.min(n, places.length);
            for (int i = 0; i < size; i++) {
                places[i] = filling;
            }
        }

        boolean isAllWithin(int least, int most) {
            for (int i = 0; i < size; i++) {
                if (!within(read(i), least, most)) {
                    return false;
                }
            }
            return true;
        }
    }

    /** What each kind of member says and breathes. */
    private static final class Kind {
        static final int MEMBER = 0, BISHOP = 1, YOUNG = 2, FOREIGN = 3, ADMIRAL = 4, VICAR = 5;
        static final int COUNT = 6;

        static int byLetter(int letter) {
            switch (letter) {
                case 'm':
                    return MEMBER;
                case 'b':
                    return BISHOP;
                case 'y':
                    return YOUNG;
                case 'f':
                    return FOREIGN;
                case 'a':
                    return ADMIRAL;
                case 'v':
                    return VICAR;
                default:
                    return NONE;
            }
        }

        static boolean isOf(int kind, int wanted) {
            switch (wanted) {
                case MEMBER:
                    return true;
                case BISHOP:
                    return kind == BISHOP || kind == ADMIRAL;
                case YOUNG:
                    return kind == YOUNG || kind == VICAR;
                default:
                    return kind == wanted;
            }
        }

        static int spoken(int kind, int meant) {
            switch (kind) {
                case YOUNG:
                    return meant - meant % 10;
                case VICAR:
                    return meant % 10;
                case FOREIGN:
                    return meant;
                case ADMIRAL:
                    return Math.max(0, meant / 2 - 1);
                default:
                    return meant / 2;
            }
        }

        static int breathed(int kind, int meant) {
            return meant - spoken(kind, meant);
        }

        static int meaningsOf(int kind, int saying) {
            int meanings = 0;
            for (int v = 0; v <= MEANT_MOST; v++) {
                meanings += spoken(kind, v) == saying ? 1 : 0;
            }
            return meanings;
        }

        static int leastMeaningOf(int kind, int saying) {
            for (int v = 0; v <= MEANT_MOST; v++) {
                if (spoken(kind, v) == saying) {
                    return v;
                }
            }
            return NONE;
        }
    }

    /** The small language: signs are numbered without blanks, p, leak, cells, then letter and seat by turns. */
    private static final class Script {
        static final int HEAD = 3, FULL_CLUB = HEAD + 2 * MEMBERS_MOST;

        static int faultOf(Row text) {
            int sign = 0;
            int cells = 0;
            for (int i = 0; i < text.size; i++) {
                int read = text.read(i);
                if (read == BLANK && isBetweenItems(sign)) {
                    continue;
                }
                if (!fits(read, sign, cells)) {
                    return i;
                }
                if (sign == 2) {
                    cells = read - '0';
                }
                sign++;
            }
            boolean whole = sign > HEAD && isBetweenItems(sign);
            return whole ? NONE : text.size;
        }

        /** Only for a text without a fault. */
        static void settle(Row text, Club club) {
            int sign = 0;
            club.members = 0;
            for (int i = 0; i < text.size; i++) {
                int read = text.read(i);
                if (read == BLANK) {
                    continue;
                }
                if (sign == 1) {
                    club.leak = read - '0';
                } else if (sign == 2) {
                    club.cells = read - '0';
                } else if (sign >= HEAD && isBetweenItems(sign)) {
                    club.join(Kind.byLetter(read));
                } else if (sign > HEAD) {
                    club.seat(read - '0');
                }
                sign++;
            }
        }

        private static boolean isBetweenItems(int sign) {
            return sign == 0 || sign >= HEAD && (sign - HEAD) % 2 == 0;
        }

        private static boolean fits(int read, int sign, int cells) {
            if (sign >= FULL_CLUB) {
                return false;
            }
            if (sign == 0) {
                return read == 'p';
            }
            if (sign == 1) {
                return within(read, '0', '9');
            }
            if (sign == 2) {
                return within(read, '3', '8');
            }
            if (isBetweenItems(sign)) {
                return Kind.byLetter(read) != NONE;
            }
            return within(read, '0', '0' + cells - 1);
        }
    }

    /** The members, and the air above them. */
    private static final class Club {
        final int[] kinds, seats, talked, air;
        int leak, cells, members, hours, heard, said;

        Club() {
            kinds = new int[MEMBERS_MOST];
            seats = new int[MEMBERS_MOST];
            talked = new int[MEMBERS_MOST];
            air = new int[CELLS_MOST];
        }

        boolean hasMember(int i) {
            return i >= 0 && i < members;
        }

        boolean hasCell(int c) {
            return c >= 0 && c < cells;
        }

        void join(int kind) {
            if (members < MEMBERS_MOST) {
                kinds[members] = kind;
                members++;
            }
        }

        void seat(int cell) {
            if (members > 0 && hasCell(cell)) {
                seats[members - 1] = cell;
            }
        }

        void freshen() {
            hours = 0;
            heard = 0;
            said = 0;
            for (int i = 0; i < MEMBERS_MOST; i++) {
                talked[i] = 0;
            }
            for (int c = 0; c < CELLS_MOST; c++) {
                air[c] = 0;
            }
        }

        private int behind(int c) {
            return c + 1 < cells ? c + 1 : 0;
        }

        private int ahead(int c) {
            return c > 0 ? c - 1 : cells - 1;
        }

        /** How much of what a member breathes comes to a cell. */
        int share(int i, int meant, int c) {
            int breath = Kind.breathed(kinds[i], meant);
            if (!Kind.isOf(kinds[i], Kind.BISHOP)) {
                return c == seats[i] ? breath : 0;
            }
            int own = breath / 2;
            int backward = (breath - own) / 2;
            if (c == seats[i]) {
                return own;
            }
            if (c == behind(seats[i])) {
                return backward;
            }
            return c == ahead(seats[i]) ? breath - own - backward : 0;
        }

        void breatheInto(int[] some, int i, int meant) {
            for (int c = 0; c < cells && c < some.length; c++) {
                some[c] = Math.min(SMOKE_MOST, some[c] + share(i, meant, c));
            }
        }

        int letTalk(int i, int meant) {
            if (!hasMember(i)) {
                return 0;
            }
            int saying = Kind.spoken(kinds[i], meant);
            breatheInto(air, i, meant);
            talked[i]++;
            said += saying;
            return saying;
        }

        int passHour() {
            int before = allSmoke();
            for (int c = 0; c < cells; c++) {
                air[c] = smokeIn(c, 1);
            }
            hours++;
            return before - allSmoke();
        }

        int openCell(int c) {
            if (!hasCell(c)) {
                return 0;
            }
            int was = air[c];
            air[c] = 0;
            return was;
        }

        int comeDown() {
            heard += allSmoke();
            for (int c = 0; c < cells; c++) {
                air[c] = 0;
            }
            return heard;
        }

        int smokeIn(int c, int later) {
            return Math.max(0, air[c] - leak * later);
        }

        int allSmokeIn(int later) {
            int sum = 0;
            for (int c = 0; c < cells; c++) {
                sum += smokeIn(c, later);
            }
            return sum;
        }

        int allSmoke() {
            return sumOf(air);
        }

        int sumOf(int[] some) {
            int sum = 0;
            for (int c = 0; c < cells && c < some.length; c++) {
                sum += some[c];
            }
            return sum;
        }

        int smokeOutside(int opened) {
            int sum = 0;
            for (int c = 0; c < cells; c++) {
                sum += (opened >> c & 1) == 0 ? air[c] : 0;
            }
            return sum;
        }

        int fullestOf(int[] some) {
            int fullest = 0;
            for (int c = 0; c < cells && c < some.length; c++) {
                fullest = Math.max(fullest, some[c]);
            }
            return fullest;
        }

        int ringSmoke(int i) {
            int own = seats[i];
            return air[own] + air[behind(own)] + air[ahead(own)];
        }

        int otherYoungBeside(int i) {
            int others = 0;
            for (int j = 0; j < members; j++) {
                boolean beside = j != i && seats[j] == seats[i];
                others += beside && Kind.isOf(kinds[j], Kind.YOUNG) ? 1 : 0;
            }
            return others;
        }

        int othersWithoutBreath(int i, int meant) {
            int others = 0;
            for (int j = 0; j < members; j++) {
                others += j != i && Kind.breathed(kinds[j], meant) == 0 ? 1 : 0;
            }
            return others;
        }

        int membersOf(int kind) {
            int fitting = 0;
            for (int i = 0; i < members; i++) {
                fitting += Kind.isOf(kinds[i], kind) ? 1 : 0;
            }
            return fitting;
        }
    }

    /** Deeds in their order, each as one number: there is little room, and four of these an object. */
    private static final class Deeds {
        static final int MISSING = -1, MOST = 40;
        static final int WHATS = 4, WHOMS = 8;

        final int[] codes;
        int size;

        Deeds() {
            codes = new int[MOST];
            size = MISSING;
        }

        boolean isFull() {
            return size >= MOST;
        }

        void write(int what, int whom, int meant) {
            if (size >= 0 && size < MOST) {
                codes[size] = (meant * WHOMS + whom) * WHATS + what;
                size++;
            }
        }

        int what(int n) {
            return codes[n] % WHATS;
        }

        int whom(int n) {
            return codes[n] / WHATS % WHOMS;
        }

        int meant(int n) {
            return codes[n] / WHATS / WHOMS;
        }

        void takeFrom(Deeds other) {
            for (int n = 0; n < MOST; n++) {
                codes[n] = other.codes[n];
            }
            size = other.size;
        }
    }

    /** What rows tell of those who spoke, and of the ceiling. */
    private static final class Notes {
        static boolean fit(Row notes, int kind) {
            for (int i = 0; i + 1 < notes.size; i += 2) {
                if (Kind.spoken(kind, notes.read(i)) != notes.read(i + 1)) {
                    return false;
                }
            }
            return true;
        }

        static int fittingKinds(Row notes) {
            int fitting = 0;
            for (int kind = 0; kind < Kind.COUNT; kind++) {
                fitting |= fit(notes, kind) ? 1 << kind : 0;
            }
            return fitting;
        }

        static int greatestPart(int some, int meant) {
            int greatest = 0;
            for (int kind = 0; kind < Kind.COUNT; kind++) {
                if ((some >> kind & 1) == 1) {
                    greatest = Math.max(greatest, partLike(some, kind, meant));
                }
            }
            return greatest;
        }

        private static int partLike(int some, int kind, int meant) {
            int part = 0;
            for (int other = 0; other < Kind.COUNT; other++) {
                boolean alike = Kind.spoken(other, meant) == Kind.spoken(kind, meant);
                part += alike ? some >> other & 1 : 0;
            }
            return part;
        }

        static boolean leaksBy(Row row, int leak) {
            for (int i = 0; i + 1 < row.size; i++) {
                if (row.read(i + 1) != Math.max(0, row.read(i) - leak)) {
                    return false;
                }
            }
            return true;
        }
    }

    /** One who talks and one who opens; each move is tried in an air of its own. */
    private static final class Turns {
        final int[][] airs;

        Turns() {
            airs = new int[2 * TURNS_MOST][CELLS_MOST];
        }

        int play(Club club, int meant, int turns) {
            System.arraycopy(club.air, 0, airs[0], 0, CELLS_MOST);
            return mostByTalk(club, meant, turns, 0);
        }

        private int mostByTalk(Club club, int meant, int turns, int level) {
            if (turns <= 0 || level + 1 >= airs.length) {
                return club.sumOf(airs[level]);
            }
            int most = 0;
            for (int i = -1; i < club.members; i++) {
                takeAir(level);
                if (i >= 0) {
                    club.breatheInto(airs[level + 1], i, meant);
                }
                most = Math.max(most, leastByWindow(club, meant, turns, level + 1));
            }
            return most;
        }

        private int leastByWindow(Club club, int meant, int turns, int level) {
            // Nobody talks behind the last window, so no other cell than the fullest need be tried.
            if (turns <= 1 || level + 1 >= airs.length) {
                return club.sumOf(airs[level]) - club.fullestOf(airs[level]);
            }
            int fewest = ALL_SMOKE_MOST;
            for (int c = -1; c < club.cells; c++) {
                takeAir(level);
                if (c >= 0) {
                    airs[level + 1][c] = 0;
                }
                fewest = Math.min(fewest, mostByTalk(club, meant, turns - 1, level + 1));
            }
            return fewest;
        }

        private void takeAir(int level) {
            System.arraycopy(airs[level], 0, airs[level + 1], 0, CELLS_MOST);
        }
    }
}
