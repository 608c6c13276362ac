import java.util.Arrays;

/**
 * A street where it is always yesterday: notes are passed back to the day's beginning, people
 * write by rules, and the days that can be are those that agree with what was passed back.
 */
public final class YesterStreet {
    public static final int BAD = -1, STATE = -2, FULL = -3, NONE = -4;

    private static final int MOST_NOTES = 6, MOST_PEOPLE = 4, MOST_RULES = 8, MOST_SETS = 64;
    private static final int MOST_WORTH = 9, MOST_BYTES = 160, MOST_SEEN = 8, IMAGES = 2;
    private static final int SHEETS = 4, LANES = 3, MOST_CELLS = 40, MOST_READ = 20;
    private static final int MOST_DAYS = 60, DAYS_END = 1000, TENTHS = 10;
    private static final int FAULT_BASE = -10, REFUSED_BASE = -20, WORTH_BASE = 100;
    private static final int NULL_FAULT = 1, INDEX_FAULT = 2, CAST_FAULT = 3, SIZE_FAULT = 4;
    private static final int WITH_NOTE = 0, WITHOUT_DAY = 1, HOW_MANY = 2;

    /** For each NOTE the sets that it is in: bit s of a long stands for the set s. */
    private static final long[] HAVING = {
        0xAAAAAAAAAAAAAAAAL, 0xCCCCCCCCCCCCCCCCL, 0xF0F0F0F0F0F0F0F0L,
        0xFF00FF00FF00FF00L, 0xFFFF0000FFFF0000L, 0xFFFFFFFF00000000L};

    private final Street street;
    private final Street[] images;
    private final boolean[] kept;
    private final Almanac almanac;
    private final Tape tape;
    private final int[] seenNotes;
    private final boolean[] seenThere;
    private int seen;
    private final Row[] sheets;
    private int torn;
    private final int[] metAt;

    public YesterStreet() {
        street = new Street();
        images = new Street[IMAGES];
        for (int k = 0; k < IMAGES; k++) {
            images[k] = new Street();
        }
        kept = new boolean[IMAGES];
        almanac = new Almanac();
        tape = new Tape();
        seenNotes = new int[MOST_SEEN];
        seenThere = new boolean[MOST_SEEN];
        sheets = new Row[SHEETS];
        for (int k = 0; k < SHEETS; k++) {
            sheets[k] = new Row();
        }
        metAt = new int[MOST_SETS];
    }

    // ---- the text, what there is

    public int feed(int c) {
        if (c < 0 || c > 127) {
            return BAD;
        }
        if (tape.length >= MOST_BYTES) {
            return FULL;
        }
        tape.append(c);
        return tape.length;
    }

    public int end(int n) {
        if (n < 0 || n > tape.length) {
            return BAD;
        }
        int had = tape.length;
        tape.length = n;
        return had;
    }

    public int text() {
        int lines = tape.tell();
        tape.length = 0;
        if (tape.fault != 0) {
            return FAULT_BASE - tape.place;
        }
        street.become(tape.told);
        seen = 0;
        for (int k = 0; k < IMAGES; k++) {
            kept[k] = false;
        }
        return lines;
    }

    public int fault() {
        return tape.fault;
    }

    public int rule(int what) {
        switch (what) {
            case 0: return street.notes;
            case 1: return street.people;
            case 2: return street.rules;
            case 3: return street.home;
            case 4: return street.stopped;
            case 5: return street.today;
            case 6: return street.date;
            default: return BAD;
        }
    }

    public int law(int k, int what) {
        if (!street.hasRule(k)) {
            return BAD;
        }
        switch (what) {
            case 0: return street.ones[k];
            case 1: return street.writes[k];
            case 2: return street.needs[k];
            case 3: return street.bars[k];
            case 4: return street.holds(k, street.today) ? 1 : 0;
            default: return BAD;
        }
    }

    public int worth(int n) {
        return street.hasNote(n) ? WORTH_BASE + street.worths[n] : BAD;
    }

    // ---- what is changed

    public int write(int n, boolean is) {
        int refused = refusal(n, is);
        if (refused != 0) {
            return refused;
        }
        int was = bitOf(street.today, n);
        street.today = withBit(street.today, n, is);
        return was;
    }

    public int home(int p, boolean is) {
        if (p < 0 || p >= street.people) {
            return BAD;
        }
        int was = bitOf(street.home, p);
        street.home = withBit(street.home, p, is);
        return was;
    }

    public int stop(int n, boolean is) {
        if (!street.hasNote(n)) {
            return BAD;
        }
        int was = bitOf(street.stopped, n);
        street.stopped = withBit(street.stopped, n, is);
        return was;
    }

    public int need(int k, int n, boolean is) {
        return change(street.needs, street.bars, k, n, is);
    }

    public int bar(int k, int n, boolean is) {
        return change(street.bars, street.needs, k, n, is);
    }

    public int pay(int n, int v) {
        if (!street.hasNote(n) || v < -MOST_WORTH || v > MOST_WORTH) {
            return BAD;
        }
        int was = street.worths[n];
        street.worths[n] = v;
        return WORTH_BASE + was;
    }

    public int cut(int n) {
        if (n < 0 || n > street.rules) {
            return BAD;
        }
        int were = street.rules;
        street.rules = n;
        return were;
    }

    // ---- days

    public int brings(int set) {
        return street.hasSet(set) ? street.outcome(set) : BAD;
    }

    public int day(int n) {
        if (n < 0 || n > MOST_DAYS) {
            return BAD;
        }
        if (street.date + n >= DAYS_END) {
            return FULL;
        }
        for (int i = 0; i < n; i++) {
            street.today = street.outcome(street.today);
        }
        street.date += n;
        return street.today;
    }

    public int round(int set, int what) {
        if (!street.hasSet(set) || !isYesNo(what)) {
            return BAD;
        }
        Arrays.fill(metAt, -1);
        int now = set;
        int gone = 0;
        while (gone < MOST_SETS && metAt[now] < 0) {
            metAt[now] = gone;
            now = street.outcome(now);
            gone++;
        }
        return what == 0 ? metAt[now] : gone - metAt[now];
    }

    public int days(int what) {
        if (what < 0 || what > 4) {
            return BAD;
        }
        long sets = almanac.agreeingNow(street);
        switch (what) {
            case 0: return Long.bitCount(sets);
            case 1: return leastOf(sets);
            case 2: return greatestOf(sets);
            case 3: return inAll(sets);
            default: return inNone(sets);
        }
    }

    public int first() {
        almanac.open(street, street.home);
        for (int n = 0; n <= street.rules; n++) {
            if (almanac.agreeing(street, (1 << n) - 1, street.stopped) == 0) {
                return n;
            }
        }
        return NONE;
    }

    public int less() {
        almanac.open(street, street.home);
        for (int gone = 0; gone < street.rules; gone++) {
            if (almanac.agreeing(street, (1 << street.rules - gone) - 1, street.stopped) != 0) {
                return gone;
            }
        }
        // without RULES the empty set BRINGS itself
        return street.rules;
    }

    // ---- where it begins

    public int begins(int set) {
        return street.hasSet(set) ? street.beginnings(set) : BAD;
    }

    public int pure(int what) {
        if (!isYesNo(what)) {
            return BAD;
        }
        long sets = almanac.agreeingNow(street);
        for (int set = 0; set <= street.allNotes(); set++) {
            if (isAmong(set, sets) && street.beginnings(set) != set) {
                sets &= ~(1L << set);
            }
        }
        return what == 0 ? Long.bitCount(sets) : leastOf(sets);
    }

    public int wrote(int set, int n) {
        return street.hasSet(set) && street.hasNote(n) ? street.writers(set, n) : BAD;
    }

    public int could(int n) {
        if (!street.hasNote(n)) {
            return BAD;
        }
        long sets = almanac.agreeingNow(street);
        int who = 0;
        for (int set = 0; set <= street.allNotes(); set++) {
            if (isAmong(set, sets)) {
                who |= street.writers(set, n);
            }
        }
        return who;
    }

    // ---- what is to be done

    public int fewest(int n, boolean is, int what) {
        if (!street.hasNote(n) || !isYesNo(what)) {
            return BAD;
        }
        long wanted = is ? HAVING[n] : ~HAVING[n];
        int best = NONE;
        for (int more = 0; more < 1 << street.people; more++) {
            if ((more & street.home) == 0 && isFewer(more, best)) {
                almanac.open(street, street.home | more);
                if ((almanac.agreeing(street, street.allRules(), street.stopped) & wanted) != 0) {
                    best = more;
                }
            }
        }
        return what == 0 ? sizeOf(best) : best;
    }

    public int police(int n, int what) {
        if (!street.hasNote(n) || !isYesNo(what)) {
            return BAD;
        }
        almanac.open(street, street.home);
        int never = street.stopped | 1 << n;
        int best = NONE;
        for (int more = 0; more <= street.allNotes(); more++) {
            if ((more & never) == 0 && isFewer(more, best)) {
                if ((almanac.agreeing(street, street.allRules(), street.stopped | more) & HAVING[n]) == 0) {
                    best = more;
                }
            }
        }
        return what == 0 ? sizeOf(best) : best;
    }

    public int comes() {
        long sets = almanac.agreeingNow(street);
        int best = NONE;
        int bestChange = MOST_NOTES + 1;
        for (int set = 0; set <= street.allNotes(); set++) {
            int change = Integer.bitCount(set ^ street.today);
            if (isAmong(set, sets) && change < bestChange) {
                best = set;
                bestChange = change;
            }
        }
        return best;
    }

    public int richest(int what) {
        if (!isYesNo(what)) {
            return BAD;
        }
        long sets = almanac.agreeingNow(street);
        int best = NONE;
        int bestSum = 0;
        for (int set = 0; set <= street.allNotes(); set++) {
            if (isAmong(set, sets)) {
                int sum = street.sumOfWorths(set);
                if (best == NONE || sum > bestSum) {
                    best = set;
                    bestSum = sum;
                }
            }
        }
        return what == 0 || best == NONE ? best : WORTH_BASE + bestSum;
    }

    // ---- odds

    public long odds(int v, int n, int what) {
        return street.hasNote(n) ? expected(v, WITH_NOTE, n, what) : BAD;
    }

    public long none(int v, int what) {
        return expected(v, WITHOUT_DAY, 0, what);
    }

    public long mean(int v, int what) {
        return expected(v, HOW_MANY, 0, what);
    }

    // ---- which day it was

    public int see(int n, boolean is) {
        if (!street.hasNote(n)) {
            return BAD;
        }
        if (seen >= MOST_SEEN) {
            return FULL;
        }
        seenNotes[seen] = n;
        seenThere[seen] = is;
        seen++;
        return seen;
    }

    public int forget(int n) {
        if (n < 0 || n > seen) {
            return BAD;
        }
        int were = seen;
        seen = n;
        return were;
    }

    public int fits(int what) {
        if (what < 0 || what > 3) {
            return BAD;
        }
        long sets = fitting();
        switch (what) {
            case 0: return Long.bitCount(sets);
            case 1: return leastOf(sets);
            case 2: return inAll(sets);
            default: return inNone(sets);
        }
    }

    public int ask(int what) {
        if (!isYesNo(what)) {
            return BAD;
        }
        long sets = fitting();
        int best = NONE;
        int fewestLeft = Long.bitCount(sets);
        for (int n = 0; n < street.notes; n++) {
            int left = Math.max(Long.bitCount(sets & HAVING[n]), Long.bitCount(sets & ~HAVING[n]));
            if (left < fewestLeft) {
                best = n;
                fewestLeft = left;
            }
        }
        return what == 0 || best == NONE ? best : fewestLeft;
    }

    // ---- by a seed

    public int drift(int seed, int n, int what) {
        if (n < 1 || n > MOST_DAYS || !isYesNo(what) || street.notes < 1) {
            return BAD;
        }
        int state = seed;
        int set = street.today;
        int agreed = 0;
        for (int i = 0; i < n; i++) {
            state = state * 1103515245 + 12345;
            set ^= 1 << (state >>> 16 & 0x7FFF) % street.notes;
            set = street.outcome(set);
            if (street.outcome(set) == set) {
                agreed++;
            }
        }
        return what == 0 ? set : agreed;
    }

    // ---- images, sheets

    public int keep(int k) {
        if (k < 0 || k >= IMAGES) {
            return BAD;
        }
        int was = kept[k] ? 1 : 0;
        images[k].become(street);
        kept[k] = true;
        return was;
    }

    public int back(int k) {
        if (k < 0 || k >= IMAGES) {
            return BAD;
        }
        if (!kept[k]) {
            return STATE;
        }
        street.become(images[k]);
        return street.today;
    }

    public int sheet(int k, int lane, int n) {
        if (!isSheet(k) || !isLane(lane) || n > MOST_CELLS) {
            return BAD;
        }
        if (n < 0) {
            return FAULT_BASE - SIZE_FAULT;
        }
        sheets[k].renew(lane, n);
        return 1;
    }

    public int lay(int k, int i, int v) {
        if (!isSheet(k)) {
            return BAD;
        }
        Row row = sheets[k];
        int found = row.faultAt(row.lane, i);
        if (found != 0) {
            return FAULT_BASE - found;
        }
        row.put(i, v);
        return 1;
    }

    public int read(int k, int lane, int f, int n) {
        if (!isSheet(k) || !isLane(lane) || n < 0 || n > MOST_READ) {
            return BAD;
        }
        Row row = sheets[k];
        int set = street.today;
        int found = 0;
        int came = 0;
        while (came < n && found == 0) {
            int at = f + 2 * came;
            found = row.faultAtPair(lane, at);
            if (found == 0) {
                int note = row.cellAt(at);
                int there = row.cellAt(at + 1);
                if (!isYesNo(there) || refusal(note, there == 1) != 0) {
                    return REFUSED_BASE - came;
                }
                set = withBit(set, note, there == 1);
                came++;
            }
        }
        street.today = set;
        torn = found;
        return came;
    }

    public int torn() {
        return torn;
    }

    public int count(int what) {
        switch (what) {
            case 0: return seen;
            case 1: return imagesKept();
            case 2: return tape.length;
            case 3: return sheets[0].lane == Row.NOTHING ? NONE : sheets[0].size;
            case 4: return Integer.bitCount(street.today);
            case 5: return Integer.bitCount(street.holding(street.today));
            default: return BAD;
        }
    }

    // ---- what several calls share

    /** Why write() refuses, 0 if it does not; read() asks the same ahead of changing anything. */
    private int refusal(int n, boolean is) {
        if (!street.hasNote(n)) {
            return BAD;
        }
        return is && bitOf(street.stopped, n) == 1 ? STATE : 0;
    }

    private int change(int[] row, int[] other, int k, int n, boolean is) {
        if (!street.hasRule(k) || !street.hasNote(n)) {
            return BAD;
        }
        if (is && bitOf(other[k], n) == 1) {
            return STATE;
        }
        int was = bitOf(row[k], n);
        row[k] = withBit(row[k], n, is);
        return was;
    }

    private int imagesKept() {
        int all = 0;
        for (int k = 0; k < IMAGES; k++) {
            if (kept[k]) {
                all++;
            }
        }
        return all;
    }

    private long fitting() {
        long sets = almanac.agreeingNow(street);
        for (int i = 0; i < seen; i++) {
            long having = HAVING[seenNotes[i]];
            sets &= seenThere[i] ? having : ~having;
        }
        return sets;
    }

    /** Over all choices of RULES that do not fail: each by how likely it is out of ten to the RULES. */
    private long expected(int v, int kind, int n, int what) {
        if (v < 0 || v > TENTHS || !isYesNo(what)) {
            return BAD;
        }
        almanac.open(street, street.home);
        long sum = 0;
        for (int choice = 0; choice <= street.allRules(); choice++) {
            long weight = weightOf(choice, v);
            if (weight != 0) {
                sum += weight * measure(almanac.agreeing(street, choice, street.stopped), kind, n);
            }
        }
        return inLowestTerms(sum, power(TENTHS, street.rules), what);
    }

    private long weightOf(int choice, int v) {
        int stand = Integer.bitCount(choice);
        return power(TENTHS - v, stand) * power(v, street.rules - stand);
    }

    private static int measure(long sets, int kind, int n) {
        switch (kind) {
            case WITH_NOTE: return (sets & HAVING[n]) != 0 ? 1 : 0;
            case WITHOUT_DAY: return sets == 0 ? 1 : 0;
            default: return Long.bitCount(sets);
        }
    }

    private static long power(long base, int times) {
        long product = 1;
        for (int i = 0; i < times; i++) {
            product *= base;
        }
        return product;
    }

    private static long inLowestTerms(long above, long below, int what) {
        long divisor = below;
        long rest = above;
        // Euclid's steps on numbers of ten figures are below 60
        for (int i = 0; i < 100 && rest != 0; i++) {
            long next = divisor % rest;
            divisor = rest;
            rest = next;
        }
        if (divisor == 0) {
            return BAD;
        }
        return (what == 0 ? above : below) / divisor;
    }

    private static int leastOf(long sets) {
        for (int set = 0; set < MOST_SETS; set++) {
            if (isAmong(set, sets)) {
                return set;
            }
        }
        return NONE;
    }

    private static int greatestOf(long sets) {
        for (int set = MOST_SETS - 1; set >= 0; set--) {
            if (isAmong(set, sets)) {
                return set;
            }
        }
        return NONE;
    }

    private int inAll(long sets) {
        int all = 0;
        for (int n = 0; n < street.notes; n++) {
            if ((sets & ~HAVING[n]) == 0) {
                all |= 1 << n;
            }
        }
        return sets == 0 ? NONE : all;
    }

    private int inNone(long sets) {
        int none = 0;
        for (int n = 0; n < street.notes; n++) {
            if ((sets & HAVING[n]) == 0) {
                none |= 1 << n;
            }
        }
        return sets == 0 ? NONE : none;
    }

    private static boolean isAmong(int set, long sets) {
        return (sets >>> set & 1) == 1;
    }

    private static boolean isFewer(int more, int best) {
        return best == NONE || Integer.bitCount(more) < Integer.bitCount(best);
    }

    private static int sizeOf(int best) {
        return best == NONE ? NONE : Integer.bitCount(best);
    }

    private static int bitOf(int bits, int i) {
        return bits >> i & 1;
    }

    private static int withBit(int bits, int i, boolean is) {
        return is ? bits | 1 << i : bits & ~(1 << i);
    }

    private static boolean isYesNo(int what) {
        return what == 0 || what == 1;
    }

    private static boolean isSheet(int k) {
        return k >= 0 && k < SHEETS;
    }

    private static boolean isLane(int lane) {
        return lane >= 0 && lane < LANES;
    }

    /** What a text tells and an IMAGE keeps. */
    private static final class Street {
        int notes, people, rules, home, stopped, today, date;
        final int[] ones, writes, needs, bars, worths;

        Street() {
            ones = new int[MOST_RULES];
            writes = new int[MOST_RULES];
            needs = new int[MOST_RULES];
            bars = new int[MOST_RULES];
            worths = new int[MOST_NOTES];
            notes = 3;
            people = 2;
        }

        void clear() {
            notes = 3;
            people = 2;
            rules = 0;
            home = 0;
            stopped = 0;
            today = 0;
            date = 0;
            Arrays.fill(worths, 0);
        }

        void become(Street other) {
            notes = other.notes;
            people = other.people;
            rules = other.rules;
            home = other.home;
            stopped = other.stopped;
            today = other.today;
            date = other.date;
            System.arraycopy(other.ones, 0, ones, 0, MOST_RULES);
            System.arraycopy(other.writes, 0, writes, 0, MOST_RULES);
            System.arraycopy(other.needs, 0, needs, 0, MOST_RULES);
            System.arraycopy(other.bars, 0, bars, 0, MOST_RULES);
            System.arraycopy(other.worths, 0, worths, 0, MOST_NOTES);
        }

        void addRule(int one, int note, int needed, int barred) {
            if (rules < MOST_RULES) {
                ones[rules] = one;
                writes[rules] = note;
                needs[rules] = needed;
                bars[rules] = barred;
                rules++;
            }
        }

        boolean hasNote(int n) {
            return n >= 0 && n < notes;
        }

        boolean hasRule(int k) {
            return k >= 0 && k < rules;
        }

        boolean hasSet(int set) {
            return set >= 0 && set <= allNotes();
        }

        int allNotes() {
            return (1 << notes) - 1;
        }

        int allRules() {
            return (1 << rules) - 1;
        }

        boolean holds(int k, int set) {
            return bitOf(home, ones[k]) == 0 && (needs[k] & ~set) == 0 && (bars[k] & set) == 0;
        }

        /** The RULES that HOLD for a set, as bits. */
        int holding(int set) {
            int found = 0;
            for (int k = 0; k < rules; k++) {
                if (holds(k, set)) {
                    found |= 1 << k;
                }
            }
            return found;
        }

        int outcome(int set) {
            int written = 0;
            for (int k = 0; k < rules; k++) {
                if (holds(k, set)) {
                    written |= 1 << writes[k];
                }
            }
            return written & ~stopped;
        }

        int beginnings(int set) {
            int possible = set & ~stopped;
            int holding = holding(set);
            int begun = 0;
            // so often is enough: a time that finds no NOTE more is the last of use
            for (int i = 0; i < MOST_NOTES; i++) {
                for (int k = 0; k < rules; k++) {
                    if (bitOf(holding, k) == 1 && (needs[k] & ~begun) == 0) {
                        begun |= 1 << writes[k] & possible;
                    }
                }
            }
            return begun;
        }

        int writers(int set, int n) {
            int who = 0;
            for (int k = 0; k < rules; k++) {
                if (writes[k] == n && holds(k, set)) {
                    who |= 1 << ones[k];
                }
            }
            return who;
        }

        int sumOfWorths(int set) {
            int sum = 0;
            for (int n = 0; n < notes; n++) {
                if (bitOf(set, n) == 1) {
                    sum += worths[n];
                }
            }
            return sum;
        }
    }

    /**
     * Which sets AGREE, found for all sets at once: there are at most 64 of them, so a long has
     * a bit for each, and a choice of RULES costs a few steps instead of a walk over every set.
     */
    private static final class Almanac {
        private final long[] holdsFor, bringers;

        Almanac() {
            holdsFor = new long[MOST_RULES];
            bringers = new long[MOST_NOTES];
        }

        /** The sets that AGREE as things are. */
        long agreeingNow(Street street) {
            open(street, street.home);
            return agreeing(street, street.allRules(), street.stopped);
        }

        /** Finds for each RULE the sets that it HOLDS for, if these ONES are at HOME. */
        void open(Street street, int atHome) {
            for (int k = 0; k < street.rules; k++) {
                boolean idle = bitOf(atHome, street.ones[k]) == 1;
                holdsFor[k] = idle ? 0 : setsOf(street.needs[k], street.bars[k]);
            }
        }

        /** The sets that AGREE by a choice of RULES, behind open(). */
        long agreeing(Street street, int choice, int stopped) {
            Arrays.fill(bringers, 0);
            for (int k = 0; k < street.rules; k++) {
                if (bitOf(choice, k) == 1) {
                    bringers[street.writes[k]] |= holdsFor[k];
                }
            }
            // a shift by 64 would be one by 0
            long sets = street.notes >= MOST_NOTES ? -1 : (1L << (1 << street.notes)) - 1;
            for (int n = 0; n < street.notes; n++) {
                long bringing = bitOf(stopped, n) == 1 ? 0 : bringers[n];
                sets &= ~(bringing ^ HAVING[n]);
            }
            return sets;
        }

        private static long setsOf(int needed, int barred) {
            long sets = -1;
            for (int n = 0; n < MOST_NOTES; n++) {
                if (bitOf(needed, n) == 1) {
                    sets &= HAVING[n];
                }
                if (bitOf(barred, n) == 1) {
                    sets &= ~HAVING[n];
                }
            }
            return sets;
        }
    }

    /** A SHEET: what the machine would find is asked for ahead of each use. */
    private static final class Row {
        static final int NOTHING = -1;
        int lane, size;
        private final int[] cells;

        Row() {
            lane = NOTHING;
            cells = new int[MOST_CELLS];
        }

        void renew(int newLane, int newSize) {
            lane = newLane;
            size = newSize;
            Arrays.fill(cells, 0);
        }

        int faultAt(int asLane, int i) {
            if (lane == NOTHING) {
                return NULL_FAULT;
            }
            if (lane != asLane) {
                return CAST_FAULT;
            }
            return i < 0 || i >= size ? INDEX_FAULT : 0;
        }

        int faultAtPair(int asLane, int i) {
            int found = faultAt(asLane, i);
            return found != 0 ? found : faultAt(asLane, i + 1);
        }

        void put(int i, int v) {
            if (i >= 0 && i < size) {
                cells[i] = lane == 0 ? (byte) v : lane == 1 ? (short) v : v;
            }
        }

        int cellAt(int i) {
            return i >= 0 && i < size ? cells[i] : 0;
        }
    }

    /** THE TAPE: read a TOKEN when the one before has been taken, up to the first FAULT. */
    private static final class Tape {
        private static final int END = 0, NAME = 1, NUMBER = 2, CLOSING = 3;

        final Street told;
        int length, fault, place;
        private final byte[] bytes;
        private int next, kind, start, value;
        private boolean hasStreet;
        private int namedNotes, namedOnes, paid;

        Tape() {
            told = new Street();
            bytes = new byte[MOST_BYTES];
        }

        void append(int c) {
            if (length < MOST_BYTES) {
                bytes[length] = (byte) c;
                length++;
            }
        }

        /** How many lines were taken; told has what they say, if there is no fault. */
        int tell() {
            told.clear();
            next = 0;
            fault = 0;
            hasStreet = false;
            namedNotes = 0;
            namedOnes = 0;
            paid = 0;
            int lines = 0;
            while (lines <= length && takeToken() && kind != END && takeLine()) {
                lines++;
            }
            if (fault == 0) {
                lookBehind();
            }
            return lines;
        }

        private boolean fail(int number, int at) {
            fault = number;
            place = at;
            return false;
        }

        /** Only when all is read, as street may stand behind the lines that it bounds. */
        private void lookBehind() {
            if (namedNotes >> told.notes != 0) {
                fail(6, length);
            } else if (namedOnes >> told.people != 0) {
                fail(7, length);
            }
        }

        private boolean takeToken() {
            while (next < length && bytes[next] == ' ') {
                next++;
            }
            start = next;
            if (next >= length) {
                kind = END;
                return true;
            }
            if (isLetter(bytes[next])) {
                kind = NAME;
                while (next < length && isLetter(bytes[next])) {
                    next++;
                }
                return true;
            }
            if (isFigure(bytes[next])) {
                kind = NUMBER;
                value = 0;
                while (next < length && isFigure(bytes[next])) {
                    value = value * 10 + bytes[next] - '0';
                    next++;
                }
                return next - start <= 2 || fail(1, start);
            }
            kind = CLOSING;
            next++;
            return bytes[start] == ';' || fail(1, start);
        }

        private static boolean isLetter(int c) {
            return c >= 'a' && c <= 'z';
        }

        private static boolean isFigure(int c) {
            return c >= '0' && c <= '9';
        }

        private boolean isName(String name) {
            if (kind != NAME || next - start != name.length()) {
                return false;
            }
            for (int i = 0; i < name.length(); i++) {
                if (bytes[start + i] != name.charAt(i)) {
                    return false;
                }
            }
            return true;
        }

        private boolean takeLine() {
            if (isName("street")) {
                return takeStreet();
            }
            if (isName("rule")) {
                return takeRule();
            }
            if (isName("worth")) {
                return takeWorth(1);
            }
            if (isName("debt")) {
                return takeWorth(-1);
            }
            if (isName("home")) {
                return takeHome();
            }
            if (isName("stop")) {
                return takeStop();
            }
            return isName("today") ? takeToday() : fail(2, start);
        }

        private boolean takeStreet() {
            if (hasStreet) {
                return fail(4, start);
            }
            hasStreet = true;
            if (!takeToken() || !isNumber(1, MOST_NOTES)) {
                return false;
            }
            told.notes = value;
            if (!takeToken() || !isNumber(1, MOST_PEOPLE)) {
                return false;
            }
            told.people = value;
            return takeClosing();
        }

        private boolean takeRule() {
            if (told.rules >= MOST_RULES) {
                return fail(5, start);
            }
            if (!takeToken() || !isOne()) {
                return false;
            }
            int one = value;
            if (!takeToken() || !isNoteNotIn(0)) {
                return false;
            }
            int note = value;
            int needed = 0;
            int barred = 0;
            boolean behindNot = false;
            for (int i = 0; i <= length; i++) {
                if (!takeToken()) {
                    return false;
                }
                if (kind == CLOSING && (!behindNot || barred != 0)) {
                    told.addRule(one, note, needed, barred);
                    return true;
                }
                if (isName("not") && !behindNot) {
                    behindNot = true;
                } else if (!isNoteNotIn(needed | barred)) {
                    return false;
                } else if (behindNot) {
                    barred |= 1 << value;
                } else {
                    needed |= 1 << value;
                }
            }
            return fail(2, length);
        }

        private boolean takeWorth(int sign) {
            if (!takeToken() || !isNoteNotIn(paid)) {
                return false;
            }
            int note = value;
            paid |= 1 << note;
            if (!takeToken() || !isNumber(0, MOST_WORTH)) {
                return false;
            }
            told.worths[note] = sign * value;
            return takeClosing();
        }

        private boolean takeHome() {
            if (!takeToken() || !isOne()) {
                return false;
            }
            if (bitOf(told.home, value) == 1) {
                return fail(4, start);
            }
            told.home |= 1 << value;
            return takeClosing();
        }

        private boolean takeStop() {
            if (!takeToken() || !isNoteNotIn(told.stopped)) {
                return false;
            }
            told.stopped |= 1 << value;
            return takeClosing();
        }

        private boolean takeToday() {
            if (!takeToken() || !isNoteNotIn(told.today)) {
                return false;
            }
            told.today |= 1 << value;
            return takeClosing();
        }

        private boolean takeClosing() {
            return takeToken() && (kind == CLOSING || fail(2, start));
        }

        private boolean isOne() {
            if (!isNumber(0, MOST_PEOPLE - 1)) {
                return false;
            }
            namedOnes |= 1 << value;
            return true;
        }

        /** Whether the TOKEN at hand is a NOTE that was not told already. */
        private boolean isNoteNotIn(int already) {
            if (!isNumber(0, MOST_NOTES - 1)) {
                return false;
            }
            namedNotes |= 1 << value;
            return bitOf(already, value) == 0 || fail(4, start);
        }

        private boolean isNumber(int least, int most) {
            if (kind != NUMBER) {
                return fail(2, start);
            }
            return value >= least && value <= most || fail(3, start);
        }
    }
}
