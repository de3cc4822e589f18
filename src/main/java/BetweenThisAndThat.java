import java.util.Arrays;

/**
 * Six quantities, of which all is told as between this and that.
 * What each call answers stands in ../shared/DOC.md, as numbered promises.
 */
public final class BetweenThisAndThat {
    public static final int NONE = -1, BAD = -2, STATE = -3, FULL = -4;
    public static final long NO = -4611686018427387904L;

    private static final int NO_SUCH = -5, NO_WHAT = -7, CANT_BE = -9;
    private static final int NOTHING_THERE = -11, OUTSIDE = -12, OTHER_SORT = -13, SIZE_BELOW_0 = -14;
    private static final int NOT_APART = -100000, FAULT = -100;

    private static final int QUANTITIES = 6, TOP = 999, LAST_YEAR = 99;
    private static final int SAYINGS = 10, LINKS = 8, TEXTS = 6, TAPE = 160, SHEETS = 4, CELLS = 40;
    private static final int KINDS = 6, TAKEN_FOR_LINK = 6;
    private static final int SAYING = 0, GOSSIP = 1, SURVEYOR = 2, TALE = 3, EXACT = 4, VAGUE = 5;
    private static final int MISSING = -1, BYTES = 0, SHORTS = 1, INTS = 2;
    private static final int RECKONS = 0, COSTS = 1, MEETS = 2;
    private static final int INCHES = 4, MOST_COST = 99;
    private static final int LAST_SEED = 99999, SEEDS = 40;
    private static final long LOT_FACTOR = 48271L, LOT_MODULUS = 2147483647L;
    private static final String FIRST_TEXT = "reckons a + b ; costs 1 ; meets 1 ;";

    private final Told now = new Told();
    private final Told kept = new Told();
    private boolean hasImage = false;
    private final Link[] links = new Link[LINKS];
    private final Text[] texts = new Text[TEXTS];
    private int textCount = 0;
    private final Reader reader = new Reader();
    private final Sheet[] sheets = new Sheet[SHEETS];
    private final Spans spans = new Spans();
    private final int[] row = new int[QUANTITIES];
    private final int[] stack = new int[TAPE];
    private int lowest = 0;
    private int highest = 0;

    public BetweenThisAndThat() {
        for (int k = 0; k < LINKS; k++) {
            links[k] = new Link();
        }
        for (int t = 0; t < TEXTS; t++) {
            texts[t] = new Text();
        }
        for (int s = 0; s < SHEETS; s++) {
            sheets[s] = new Sheet();
        }
        for (int i = 0; i < FIRST_TEXT.length(); i++) {
            reader.append(FIRST_TEXT.charAt(i));
        }
        reader.read();
        texts[0].becomes(reader.draft);
        textCount = 1;
    }

    // ---- the law, the year

    public int count(int what) {
        switch (what) {
            case 0: return now.sayingCount;
            case 1: return now.linkCount;
            case 2: return now.year;
            case 3: return textCount;
            case 4: return now.law;
            case 5: return reader.size;
            default: return BAD;
        }
    }

    public int set(int v) {
        if (!within(v, 0, LAST_YEAR)) {
            return BAD;
        }
        int was = now.year;
        now.year = v;
        return was;
    }

    public int feed(int n, int a, int b, int c, int d, int e) {
        if (!within(n, 1, 5) || !isByte(a) || !isByte(b) || !isByte(c) || !isByte(d) || !isByte(e)) {
            return BAD;
        }
        if (reader.size + n > TAPE) {
            return FULL;
        }
        for (int i = 0; i < n; i++) {
            reader.append(i == 0 ? a : i == 1 ? b : i == 2 ? c : i == 3 ? d : e);
        }
        return reader.size;
    }

    public int text() {
        if (textCount >= TEXTS) {
            return FULL;
        }
        if (!reader.read()) {
            return FAULT - reader.at;
        }
        texts[textCount].becomes(reader.draft);
        textCount++;
        return textCount - 1;
    }

    public int force(int t) {
        if (!isText(t)) {
            return BAD;
        }
        int was = now.law;
        now.law = t;
        return was;
    }

    // ---- sayings, links

    public int say(int kindMore, int of, int low, int high) {
        return addSaying(kindMore, of, low, high);
    }

    public int unsay() {
        if (now.sayingCount == 0) {
            return STATE;
        }
        now.sayingCount--;
        return now.sayingCount;
    }

    public int told(int s, int what) {
        if (!isSaying(s)) {
            return NO_SUCH;
        }
        Saying one = now.sayings[s];
        switch (what) {
            case 0: return one.kind;
            case 1: return one.of;
            case 2: return one.low;
            case 3: return one.high;
            case 4: return one.more;
            case 5: return one.from(now.year);
            case 6: return one.upTo(now.year);
            default: return NO_WHAT;
        }
    }

    public int link(int a, int b, int low, int high) {
        if (!isQuantity(a) || !isQuantity(b) || a == b
                || !within(low, -TOP, TOP) || !within(high, -TOP, TOP) || low > high) {
            return BAD;
        }
        if (now.linkCount >= LINKS) {
            return FULL;
        }
        links[now.linkCount].becomes(a, b, low, high);
        now.linkCount++;
        return now.linkCount - 1;
    }

    public int linkTold(int k, int what) {
        if (!within(k, 0, now.linkCount - 1)) {
            return NO_SUCH;
        }
        Link one = links[k];
        switch (what) {
            case 0: return one.start;
            case 1: return one.goal;
            case 2: return one.low;
            case 3: return one.high;
            default: return NO_WHAT;
        }
    }

    // ---- spans

    public int can() {
        return cutSpans() ? 1 : 0;
    }

    public int span(int q, int what) {
        if (!isQuantity(q)) {
            return NO_SUCH;
        }
        if (!within(what, 0, 4)) {
            return NO_WHAT;
        }
        boolean canBe = cutSpans();
        if (what == 3) {
            return spans.begin[q];
        }
        if (what == 4) {
            return spans.end[q];
        }
        if (!canBe) {
            return NONE;
        }
        return what == 0 ? spans.least[q] : what == 1 ? spans.most[q] : spans.most[q] - spans.least[q];
    }

    public int apart(int a, int b, int what) {
        if (!isQuantity(a) || !isQuantity(b) || !within(what, 0, 1) || !cutSpans()) {
            return NOT_APART;
        }
        return what == 0 ? -spans.mostAhead(b, a) : spans.mostAhead(a, b);
    }

    // ---- what must be wrong

    public int clashes(int what) {
        if (!within(what, 0, 1)) {
            return BAD;
        }
        int pairs = 0;
        int first = NONE;
        for (int s = 0; s < now.sayingCount; s++) {
            for (int other = s + 1; other < now.sayingCount; other++) {
                if (now.sayings[s].clashesWith(now.sayings[other], now.year)) {
                    first = pairs == 0 ? 10 * s + other : first;
                    pairs++;
                }
            }
        }
        return what == 0 ? pairs : first;
    }

    public int wrong(int what) {
        if (!within(what, 0, 1)) {
            return BAD;
        }
        int fewest = SAYINGS + 1;
        int which = NONE;
        spans.tie(links, now.linkCount, NONE);
        for (int without = 0; without < 1 << now.sayingCount; without++) {
            int size = Integer.bitCount(without);
            if (size < fewest && canWithout(without)) {
                fewest = size;
                which = without;
            }
        }
        return which == NONE ? NONE : what == 0 ? fewest : which;
    }

    public int blame() {
        if (cutSpans()) {
            return 0;
        }
        int blamed = 0;
        for (int k = 0; k < now.linkCount; k++) {
            spans.tie(links, now.linkCount, k);
            if (spans.cut()) {
                blamed |= 1 << k;
            }
        }
        return blamed;
    }

    // ---- reckoning

    public long between(int t, int what) {
        if (!isText(t) || !within(what, 0, 2) || !cutSpans()) {
            return NO;
        }
        long width = widthBySpans(texts[t]);
        return what == 0 ? lowest : what == 1 ? highest : width;
    }

    public int inch() {
        return cutSpans() ? costBySpans() : NONE;
    }

    public long buy(int t, int coin, int what) {
        if (!isText(t) || !within(coin, 0, TOP) || !within(what, 0, 1) || !cutSpans()) {
            return NO;
        }
        int inches = inchesFor(coin);
        int ways = power(QUANTITIES, inches);
        long narrowest = NO;
        int digits = 0;
        for (int way = 0; way < ways; way++) {
            if (!isSorted(way, inches) || !cutBought(way, inches)) {
                continue;
            }
            long width = widthBySpans(texts[t]);
            if (narrowest == NO || width < narrowest) {
                narrowest = width;
                digits = digitsOf(way, inches);
            }
        }
        return narrowest == NO || what == 1 ? narrowest : digits;
    }

    public long worth(int t, int s) {
        if (!isText(t) || !isSaying(s) || !cutSpans()) {
            return NO;
        }
        long with = widthBySpans(texts[t]);
        return canWithout(1 << s) ? widthBySpans(texts[t]) - with : NO;
    }

    public long exact(int t, int q, int v) {
        if (!isText(t) || !isQuantity(q) || !within(v, 0, TOP)) {
            return NO;
        }
        spans.tie(links, now.linkCount, NONE);
        spans.leave(now, 0);
        spans.begin[q] = v;
        spans.end[q] = v;
        return spans.cut() ? widthBySpans(texts[t]) : NO;
    }

    // ---- wagers

    public long wager(int q, int v, int part) {
        if (!isQuantity(q) || !within(v, 0, TOP) || !within(part, 0, 1) || !cutSpans()) {
            return NO;
        }
        int least = spans.least[q];
        int most = spans.most[q];
        int won = Math.max(0, Math.min(v, most) - least + 1);
        return lowestTerms(won, most - least + 1, part);
    }

    public long less(int a, int b, int part) {
        if (!isQuantity(a) || !isQuantity(b) || a == b || !within(part, 0, 1) || !cutSpans()) {
            return NO;
        }
        long won = 0;
        for (int v = spans.least[a]; v <= spans.most[a]; v++) {
            won += Math.max(0, spans.most[b] - Math.max(v + 1, spans.least[b]) + 1);
        }
        return lowestTerms(won, (long) spans.size(a) * spans.size(b), part);
    }

    // ---- truths told later

    public int lies(int s) {
        int refusal = refusalOfTruth(s);
        if (refusal != 0) {
            return refusal;
        }
        int lying = 0;
        for (int i = 0; i < now.sayingCount; i++) {
            if (!now.sayings[i].holds(sheets[s].cells, now.year)) {
                lying |= 1 << i;
            }
        }
        return lying;
    }

    public int breaks(int s) {
        int refusal = refusalOfTruth(s);
        if (refusal != 0) {
            return refusal;
        }
        int broken = 0;
        for (int k = 0; k < now.linkCount; k++) {
            if (!links[k].holds(sheets[s].cells)) {
                broken |= 1 << k;
            }
        }
        return broken;
    }

    public int judge(int s) {
        int refusal = refusalOfTruth(s);
        if (refusal != 0) {
            return refusal;
        }
        if (!cutSpans()) {
            return CANT_BE;
        }
        for (int q = 0; q < QUANTITIES; q++) {
            if (!within(sheets[s].cells[q], spans.least[q], spans.most[q])) {
                return q;
            }
        }
        return NONE;
    }

    public long reckon(int s, int t) {
        if (refusalOfTruth(s) != 0 || !isText(t)) {
            return NO;
        }
        return texts[t].tell(RECKONS, sheets[s].cells, stack);
    }

    public int laws(int s) {
        int refusal = refusalOfTruth(s);
        if (refusal != 0) {
            return refusal;
        }
        int met = 0;
        for (int t = 0; t < textCount; t++) {
            if (texts[t].tell(MEETS, sheets[s].cells, stack) != 0) {
                met |= 1 << t;
            }
        }
        return met;
    }

    public int film(int s, int high) {
        if (!isSheet(s)) {
            return BAD;
        }
        if (!within(high, 0, 1)) {
            return NO_WHAT;
        }
        if (!cutSpans()) {
            return CANT_BE;
        }
        sheets[s].becomes(INTS, QUANTITIES);
        for (int q = 0; q < QUANTITIES; q++) {
            sheets[s].put(q, high == 0 ? spans.least[q] : spans.most[q]);
        }
        return QUANTITIES;
    }

    // ---- truths by lot

    public int drawn(int seed, int what) {
        if (!within(seed, 0, LAST_SEED) || !within(what, 0, QUANTITIES)) {
            return BAD;
        }
        if (!cutSpans()) {
            return NONE;
        }
        drawRow(seed);
        return what < QUANTITIES ? row[what] : rowMeetsLaw() ? 1 : 0;
    }

    public long odds(int seed, int seeds, int part) {
        if (!within(seed, 0, LAST_SEED) || !within(seeds, 1, SEEDS) || !within(part, 0, 1) || !cutSpans()) {
            return NO;
        }
        int met = 0;
        for (int i = 0; i < seeds; i++) {
            drawRow(seed + i);
            met += rowMeetsLaw() ? 1 : 0;
        }
        return lowestTerms(met, seeds, part);
    }

    public int image() {
        kept.becomes(now);
        hasImage = true;
        return now.sayingCount;
    }

    public int back() {
        if (!hasImage) {
            return STATE;
        }
        now.becomes(kept);
        return now.sayingCount;
    }

    // ---- the host

    public int sheet(int s, int sort, int n) {
        if (!isSheet(s) || !within(sort, MISSING, INTS)) {
            return BAD;
        }
        if (sort != MISSING && n > CELLS) {
            return BAD;
        }
        if (sort != MISSING && n < 0) {
            return SIZE_BELOW_0;
        }
        sheets[s].becomes(sort, sort == MISSING ? 0 : n);
        return 1;
    }

    public int cell(int s, int i, int v) {
        if (!isSheet(s)) {
            return BAD;
        }
        if (sheets[s].sort == MISSING) {
            return NOTHING_THERE;
        }
        if (!within(i, 0, sheets[s].size - 1)) {
            return OUTSIDE;
        }
        sheets[s].put(i, v);
        return 1;
    }

    public int copy(int s, int i, int other, int j, int n) {
        if (!isSheet(s) || !isSheet(other)) {
            return BAD;
        }
        Sheet source = sheets[s];
        Sheet goal = sheets[other];
        if (source.sort == MISSING || goal.sort == MISSING) {
            return NOTHING_THERE;
        }
        if (source.sort != goal.sort) {
            return OTHER_SORT;
        }
        if (!source.hasRun(i, n) || !goal.hasRun(j, n)) {
            return OUTSIDE;
        }
        System.arraycopy(source.cells, i, goal.cells, j, n);
        return n;
    }

    public int sayingsBy(int s, int sort, int at, int n) {
        if (!isSheet(s) || !within(sort, BYTES, INTS) || !within(n, 0, SAYINGS)) {
            return BAD;
        }
        Sheet by = sheets[s];
        if (by.sort == MISSING) {
            return NOTHING_THERE;
        }
        if (by.sort != sort) {
            return OTHER_SORT;
        }
        int came = 0;
        for (int i = 0; i < n; i++) {
            // at is held against the size first, so that the sum cannot wrap
            if (!within(at, 0, by.size) || !by.hasRun(at + 4 * i, 4)) {
                return OUTSIDE;
            }
            int p = at + 4 * i;
            if (addSaying(by.cells[p], by.cells[p + 1], by.cells[p + 2], by.cells[p + 3]) >= 0) {
                came++;
            }
        }
        return came;
    }

    public int taken(int i, int kind) {
        if (!within(kind, 0, TAKEN_FOR_LINK)) {
            return BAD;
        }
        if (!within(i, 0, SAYINGS + LINKS - 1)) {
            return OUTSIDE;
        }
        if (i < SAYINGS) {
            if (!isSaying(i)) {
                return NOTHING_THERE;
            }
            return kind != TAKEN_FOR_LINK && now.sayings[i].isA(kind) ? i : OTHER_SORT;
        }
        int k = i - SAYINGS;
        if (k >= now.linkCount) {
            return NOTHING_THERE;
        }
        return kind == TAKEN_FOR_LINK ? links[k].high - links[k].low : OTHER_SORT;
    }

    // ---- what several calls share

    private static boolean within(int v, int low, int high) {
        return low <= v && v <= high;
    }

    private static boolean isByte(int v) {
        return within(v, 0, 255);
    }

    private static boolean isQuantity(int q) {
        return within(q, 0, QUANTITIES - 1);
    }

    private static boolean isSheet(int s) {
        return within(s, 0, SHEETS - 1);
    }

    private boolean isText(int t) {
        return within(t, 0, textCount - 1);
    }

    private boolean isSaying(int s) {
        return within(s, 0, now.sayingCount - 1);
    }

    private int addSaying(int kindMore, int of, int low, int high) {
        if (!within(kindMore, 0, 10 * KINDS - 1) || !isQuantity(of)
                || !within(low, 0, TOP) || !within(high, 0, TOP) || low > high) {
            return BAD;
        }
        if (now.sayingCount >= SAYINGS) {
            return FULL;
        }
        now.sayings[now.sayingCount].becomes(kindMore, of, low, high);
        now.sayingCount++;
        return now.sayingCount - 1;
    }

    /** Cuts the spans by all that is told; whether all can be. */
    private boolean cutSpans() {
        spans.tie(links, now.linkCount, NONE);
        return canWithout(0);
    }

    /** Cuts the spans without some sayings (bits), by the links tied last; whether all can be so. */
    private boolean canWithout(int without) {
        spans.leave(now, without);
        return spans.cut();
    }

    /** Leaves lowest and highest behind, too. */
    private long widthBySpans(Text text) {
        setCorner(0);
        lowest = text.tell(RECKONS, row, stack);
        highest = lowest;
        for (int way = 1; way < 1 << QUANTITIES; way++) {
            // a quantity that the text does not name makes no difference
            if ((way & ~text.named) == 0) {
                setCorner(way);
                int told = text.tell(RECKONS, row, stack);
                lowest = Math.min(lowest, told);
                highest = Math.max(highest, told);
            }
        }
        return (long) highest - lowest;
    }

    private void setCorner(int way) {
        for (int q = 0; q < QUANTITIES; q++) {
            row[q] = (way >> q & 1) == 0 ? spans.least[q] : spans.most[q];
        }
    }

    private int costBySpans() {
        setCorner(0);
        int told = texts[now.law].tell(COSTS, row, stack);
        return Math.max(0, Math.min(MOST_COST, told));
    }

    private int inchesFor(int coin) {
        int cost = costBySpans();
        return cost == 0 ? INCHES : Math.min(INCHES, coin / cost);
    }

    /** A way to buy is a number of so many digits to the base of six, a quantity each. */
    private static boolean isSorted(int way, int inches) {
        int rest = way;
        int behind = QUANTITIES - 1;
        for (int i = 0; i < inches; i++) {
            if (rest % QUANTITIES > behind) {
                return false;
            }
            behind = rest % QUANTITIES;
            rest /= QUANTITIES;
        }
        return true;
    }

    private boolean cutBought(int way, int inches) {
        Arrays.fill(row, 0);
        int rest = way;
        for (int i = 0; i < inches; i++) {
            row[rest % QUANTITIES]++;
            rest /= QUANTITIES;
        }
        spans.leave(now, 0);
        for (int q = 0; q < QUANTITIES; q++) {
            spans.begin[q] += row[q] / 2;
            spans.end[q] -= (row[q] + 1) / 2;
        }
        return spans.cut();
    }

    private static int digitsOf(int way, int inches) {
        int digits = 0;
        int rest = way;
        int place = 1;
        for (int i = 0; i < inches; i++) {
            digits += place * (rest % QUANTITIES + 1);
            rest /= QUANTITIES;
            place *= 10;
        }
        return digits;
    }

    private static int power(int base, int exponent) {
        int product = 1;
        for (int i = 0; i < exponent; i++) {
            product *= base;
        }
        return product;
    }

    /** Part 0 above, part 1 below the line; neither is below 0, and below stands 1 or more. */
    private static long lowestTerms(long above, long below, int part) {
        long divisor = below;
        long rest = above;
        for (int i = 0; i < 100 && rest != 0; i++) {
            long next = divisor % rest;
            divisor = rest;
            rest = next;
        }
        long told = part == 0 ? above : below;
        return divisor > 0 ? told / divisor : told;
    }

    /** 0, if the sheet tells what each quantity is. */
    private int refusalOfTruth(int s) {
        if (!isSheet(s)) {
            return BAD;
        }
        if (sheets[s].sort == MISSING) {
            return NOTHING_THERE;
        }
        return sheets[s].size == QUANTITIES ? 0 : BAD;
    }

    private void drawRow(int seed) {
        long lot = seed + 1;
        for (int q = 0; q < QUANTITIES; q++) {
            lot = lot * LOT_FACTOR % LOT_MODULUS;
            row[q] = spans.least[q] + (int) (lot % Math.max(1, spans.size(q)));
        }
    }

    private boolean rowMeetsLaw() {
        return texts[now.law].tell(MEETS, row, stack) != 0;
    }

    /** What an image keeps. */
    private static final class Told {
        final Saying[] sayings = new Saying[SAYINGS];
        int sayingCount = 0;
        int linkCount = 0;
        int year = 0;
        int law = 0;

        Told() {
            for (int s = 0; s < SAYINGS; s++) {
                sayings[s] = new Saying();
            }
        }

        void becomes(Told other) {
            sayingCount = other.sayingCount;
            linkCount = other.linkCount;
            year = other.year;
            law = other.law;
            for (int s = 0; s < sayingCount; s++) {
                Saying one = other.sayings[s];
                sayings[s].becomes(10 * one.kind + one.more, one.of, one.low, one.high);
            }
        }
    }

    private static final class Saying {
        /** The kind above each kind. */
        private static final int[] ABOVE = {NONE, SAYING, SAYING, GOSSIP, SURVEYOR, SAYING};

        int kind = 0;
        int more = 0;
        int of = 0;
        int low = 0;
        int high = 0;

        void becomes(int kindMore, int newOf, int newLow, int newHigh) {
            kind = kindMore / 10;
            more = kindMore % 10;
            of = newOf;
            low = newLow;
            high = newHigh;
        }

        int from(int year) {
            switch (kind) {
                case GOSSIP: return Math.max(0, low - more);
                case SURVEYOR: return Math.min(low + more, middle());
                case TALE: return Math.max(0, low - more - year);
                case EXACT: return year >= more ? middle() : Math.min(low + more, middle());
                default: return low;
            }
        }

        int upTo(int year) {
            switch (kind) {
                case GOSSIP: return Math.min(TOP, high + more);
                case SURVEYOR: return Math.max(high - more, middle());
                case TALE: return Math.min(TOP, high + more + year);
                case EXACT: return year >= more ? middle() : Math.max(high - more, middle());
                case VAGUE: return TOP;
                default: return high;
            }
        }

        private int middle() {
            return (low + high) / 2;
        }

        boolean isA(int wanted) {
            int each = kind;
            for (int i = 0; i < KINDS && each != NONE; i++) {
                if (each == wanted) {
                    return true;
                }
                each = ABOVE[each];
            }
            return false;
        }

        boolean clashesWith(Saying other, int year) {
            return of == other.of && (upTo(year) < other.from(year) || other.upTo(year) < from(year));
        }

        boolean holds(int[] truth, int year) {
            return within(truth[of], from(year), upTo(year));
        }
    }

    private static final class Link {
        int start = 0;
        int goal = 0;
        int low = 0;
        int high = 0;

        void becomes(int newStart, int newGoal, int newLow, int newHigh) {
            start = newStart;
            goal = newGoal;
            low = newLow;
            high = newHigh;
        }

        boolean holds(int[] truth) {
            long difference = (long) truth[goal] - truth[start];
            return low <= difference && difference <= high;
        }
    }

    /** What sayings leave of the quantities, and what links cut of that. */
    private static final class Spans {
        final int[] begin = new int[QUANTITIES];
        final int[] end = new int[QUANTITIES];
        final int[] least = new int[QUANTITIES];
        final int[] most = new int[QUANTITIES];
        /** At a * QUANTITIES + b: how far b can be ahead of a, by links and 0 .. 999 alone. */
        private final int[] ahead = new int[QUANTITIES * QUANTITIES];
        private boolean linksCan = true;

        void leave(Told told, int without) {
            Arrays.fill(begin, 0);
            Arrays.fill(end, TOP);
            for (int s = 0; s < told.sayingCount; s++) {
                if ((without >> s & 1) == 0) {
                    Saying one = told.sayings[s];
                    begin[one.of] = Math.max(begin[one.of], one.from(told.year));
                    end[one.of] = Math.min(end[one.of], one.upTo(told.year));
                }
            }
        }

        void tie(Link[] links, int count, int without) {
            for (int i = 0; i < ahead.length; i++) {
                ahead[i] = i / QUANTITIES == i % QUANTITIES ? 0 : TOP;
            }
            for (int k = 0; k < count; k++) {
                if (k != without) {
                    Link one = links[k];
                    shorten(one.start * QUANTITIES + one.goal, one.high);
                    shorten(one.goal * QUANTITIES + one.start, -one.low);
                }
            }
            for (int by = 0; by < QUANTITIES; by++) {
                shortenAllBy(by);
            }
            linksCan = true;
            for (int q = 0; q < QUANTITIES; q++) {
                linksCan = linksCan && ahead[q * QUANTITIES + q] >= 0;
            }
        }

        private void shortenAllBy(int by) {
            for (int a = 0; a < QUANTITIES; a++) {
                for (int b = 0; b < QUANTITIES; b++) {
                    shorten(a * QUANTITIES + b, ahead[a * QUANTITIES + by] + ahead[by * QUANTITIES + b]);
                }
            }
        }

        private void shorten(int place, int length) {
            ahead[place] = Math.min(ahead[place], length);
        }

        /** Whether any row is left; only then least and most tell the spans. */
        boolean cut() {
            boolean canBe = linksCan;
            for (int q = 0; q < QUANTITIES; q++) {
                least[q] = begin[q];
                most[q] = end[q];
                for (int other = 0; other < QUANTITIES; other++) {
                    least[q] = Math.max(least[q], begin[other] - ahead[q * QUANTITIES + other]);
                    most[q] = Math.min(most[q], end[other] + ahead[other * QUANTITIES + q]);
                }
                canBe = canBe && begin[q] <= most[q];
            }
            return canBe;
        }

        /** How far b can be ahead of a in a row that is left. */
        int mostAhead(int a, int b) {
            return Math.min(ahead[a * QUANTITIES + b], most[b] - least[a]);
        }

        int size(int q) {
            return most[q] - least[q] + 1;
        }
    }

    /** Three expressions, one behind the other, operands ahead of what joins them. */
    private static final class Text {
        /** 0 .. 9999 are numbers; behind these come the quantities; what joins is below 0. */
        static final int FIRST_NAME = 10000;
        static final int OR = -1, AND = -2, NOT = -3, LESS = -4, EQUAL = -5;
        static final int PLUS = -6, MINUS = -7, TIMES = -8, NEGATE = -9;

        private final int[] code = new int[TAPE];
        private int size = 0;
        private final int[] ends = new int[3];
        int named = 0;

        void clear() {
            size = 0;
            named = 0;
        }

        void add(int piece) {
            if (size < code.length) {
                code[size] = piece;
                size++;
            }
        }

        void endPart(int part) {
            ends[part] = size;
            if (part == RECKONS) {
                named = 0;
                for (int i = 0; i < size; i++) {
                    named |= code[i] >= FIRST_NAME ? 1 << (code[i] - FIRST_NAME) : 0;
                }
            }
        }

        void becomes(Text other) {
            size = other.size;
            named = other.named;
            System.arraycopy(other.code, 0, code, 0, code.length);
            System.arraycopy(other.ends, 0, ends, 0, ends.length);
        }

        int tell(int part, int[] values, int[] stack) {
            int top = 0;
            for (int i = part == 0 ? 0 : ends[part - 1]; i < ends[part]; i++) {
                int piece = code[i];
                if (piece >= 0) {
                    if (top >= stack.length) {
                        return 0;
                    }
                    stack[top] = piece < FIRST_NAME ? piece : values[piece - FIRST_NAME];
                    top++;
                } else if (piece == NOT || piece == NEGATE) {
                    if (top < 1) {
                        return 0;
                    }
                    stack[top - 1] = piece == NEGATE ? -stack[top - 1] : truth(stack[top - 1] == 0);
                } else {
                    if (top < 2) {
                        return 0;
                    }
                    top--;
                    stack[top - 1] = joined(piece, stack[top - 1], stack[top]);
                }
            }
            return top == 1 ? stack[0] : 0;
        }

        private static int joined(int by, int x, int y) {
            switch (by) {
                case OR: return truth(x != 0 || y != 0);
                case AND: return truth(x != 0 && y != 0);
                case LESS: return truth(x < y);
                case EQUAL: return truth(x == y);
                case PLUS: return x + y;
                case MINUS: return x - y;
                default: return x * y;
            }
        }

        private static int truth(boolean is) {
            return is ? 1 : 0;
        }
    }

    /** The tape, and how it is read: each method leaves the token that it can't take in hand. */
    private static final class Reader {
        private static final int END = 0, WRONG = 1, NUMBER = 2, NAME = 3;
        private static final int KEY_OR = 4, KEY_AND = 5, KEY_NOT = 6, FIRST_KEY = 7;
        private static final int OPEN = 5, DIGITS = 4;
        private static final String SIGNS = "();+-*<=";

        private final int[] tape = new int[TAPE];
        int size = 0;
        final Text draft = new Text();
        /** The first byte of the token in hand; of a fault, too. */
        int at = 0;
        private int next = 0;
        private int token = END;
        private int value = 0;
        private int open = 0;

        void append(int one) {
            if (size < tape.length) {
                tape[size] = one;
                size++;
            }
        }

        /** Whether the tape, which is empty then, is a text: the draft. */
        boolean read() {
            draft.clear();
            open = 0;
            next = 0;
            step();
            boolean whole = readPart(RECKONS) && readPart(COSTS) && readPart(MEETS) && token == END;
            size = 0;
            return whole;
        }

        private boolean readPart(int part) {
            if (token != FIRST_KEY + part) {
                return false;
            }
            step();
            if (!readAny() || token != ';') {
                return false;
            }
            step();
            draft.endPart(part);
            return true;
        }

        private boolean readAny() {
            if (!readAll()) {
                return false;
            }
            for (int i = 0; i < TAPE && token == KEY_OR; i++) {
                step();
                if (!readAll()) {
                    return false;
                }
                draft.add(Text.OR);
            }
            return true;
        }

        private boolean readAll() {
            if (!readNot()) {
                return false;
            }
            for (int i = 0; i < TAPE && token == KEY_AND; i++) {
                step();
                if (!readNot()) {
                    return false;
                }
                draft.add(Text.AND);
            }
            return true;
        }

        private boolean readNot() {
            if (token == KEY_NOT) {
                if (!opens()) {
                    return false;
                }
                step();
                if (!readNot()) {
                    return false;
                }
                open--;
                draft.add(Text.NOT);
                return true;
            }
            if (!readSum()) {
                return false;
            }
            if (token != '<' && token != '=') {
                return true;
            }
            int by = token == '<' ? Text.LESS : Text.EQUAL;
            step();
            if (!readSum()) {
                return false;
            }
            draft.add(by);
            return true;
        }

        private boolean readSum() {
            if (!readTerm()) {
                return false;
            }
            for (int i = 0; i < TAPE && (token == '+' || token == '-'); i++) {
                int by = token == '+' ? Text.PLUS : Text.MINUS;
                step();
                if (!readTerm()) {
                    return false;
                }
                draft.add(by);
            }
            return true;
        }

        private boolean readTerm() {
            if (!readOne()) {
                return false;
            }
            for (int i = 0; i < TAPE && token == '*'; i++) {
                step();
                if (!readOne()) {
                    return false;
                }
                draft.add(Text.TIMES);
            }
            return true;
        }

        private boolean readOne() {
            if (token == NUMBER || token == NAME) {
                draft.add(token == NUMBER ? value : Text.FIRST_NAME + value);
                step();
                return true;
            }
            if (token == '-') {
                if (!opens()) {
                    return false;
                }
                step();
                if (!readOne()) {
                    return false;
                }
                open--;
                draft.add(Text.NEGATE);
                return true;
            }
            if (token != '(' || !opens()) {
                return false;
            }
            step();
            if (!readAny() || token != ')') {
                return false;
            }
            open--;
            step();
            return true;
        }

        /** One more is open, if it may be; so reading never goes deeper than the document lets it. */
        private boolean opens() {
            if (open >= OPEN) {
                return false;
            }
            open++;
            return true;
        }

        private void step() {
            at = next;
            while (at < size && (tape[at] == ' ' || tape[at] == 10)) {
                at++;
            }
            next = at;
            if (at >= size) {
                token = END;
            } else if (isLetter(tape[at])) {
                takeWord();
            } else if (isDigit(tape[at])) {
                takeNumber();
            } else {
                next = at + 1;
                token = SIGNS.indexOf((char) tape[at]) >= 0 ? tape[at] : WRONG;
            }
        }

        private void takeWord() {
            while (next < size && isLetter(tape[next])) {
                next++;
            }
            value = tape[at] - 'a';
            if (next - at == 1 && value < QUANTITIES) {
                token = NAME;
            } else if (inHand("reckons")) {
                token = FIRST_KEY + RECKONS;
            } else if (inHand("costs")) {
                token = FIRST_KEY + COSTS;
            } else if (inHand("meets")) {
                token = FIRST_KEY + MEETS;
            } else if (inHand("or")) {
                token = KEY_OR;
            } else if (inHand("and")) {
                token = KEY_AND;
            } else {
                token = inHand("not") ? KEY_NOT : WRONG;
            }
        }

        private void takeNumber() {
            value = 0;
            while (next < size && isDigit(tape[next])) {
                value = 10 * value + tape[next] - '0';
                next++;
            }
            token = next - at > DIGITS ? WRONG : NUMBER;
        }

        private boolean inHand(String key) {
            if (next - at != key.length()) {
                return false;
            }
            for (int i = 0; i < key.length(); i++) {
                if (tape[at + i] != key.charAt(i)) {
                    return false;
                }
            }
            return true;
        }

        private static boolean isLetter(int one) {
            return one >= 'a' && one <= 'z';
        }

        private static boolean isDigit(int one) {
            return one >= '0' && one <= '9';
        }
    }

    /** A row of bytes, shorts or ints; what comes in is cut to its sort at once. */
    private static final class Sheet {
        final int[] cells = new int[CELLS];
        int sort = MISSING;
        int size = 0;

        void becomes(int newSort, int newSize) {
            sort = newSort;
            size = newSize;
            Arrays.fill(cells, 0);
        }

        void put(int i, int v) {
            cells[i] = sort == BYTES ? (byte) v : sort == SHORTS ? (short) v : v;
        }

        boolean hasRun(int first, int n) {
            return n >= 0 && n <= size && first >= 0 && first <= size - n;
        }
    }
}
