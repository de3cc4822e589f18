import java.util.ArrayList;
import java.util.EnumMap;
import java.util.List;
import java.util.Map;

/**
 * The edges that the document names, sentence by sentence (quoted ahead of the calls, some of
 * them shortened): on both sides where an edge has two. What is refused, or only asked, leaves
 * all as it was. No object gets more than 512 calls.
 */
public final class EdgesTest {
    private static final long NO = BetweenThisAndThat.NO;
    private static final int NONE = -1, BAD = -2, STATE = -3, FULL = -4, NO_SUCH = -5, NO_WHAT = -7, CANT_BE = -9;
    private static final int NOTHING = -11, OUTSIDE = -12, OTHER = -13, BELOW_0 = -14, NOT_APART = -100000;
    private static final int MISSING = -1, BYTES = 0, SHORTS = 1, INTS = 2;
    private static final int LEAST = Integer.MIN_VALUE, MOST = Integer.MAX_VALUE;
    private static final String REST = ";costs 1;meets 1;";

    private static int wrong = 0;
    private static int checked = 0;
    private static int sentences = 0;
    private static String sentence = "";
    private static final Map<Made, List<Long>> looks = new EnumMap<>(Made.class);

    private interface Call {
        long on(BetweenThisAndThat x);
    }

    private interface ByOne {
        Call of(int v);
    }

    public static void main(String[] args) {
        quantitiesSayingsLinks();
        yearAndKinds();
        tapeAndTokens();
        grammarAndFaults();
        whatTextsTell();
        spansAndReckonings();
        boughtAndDrawn();
        refusalsInOrder();
        whatIsAskedChangesNothing();
        promises1To6();
        promises7To11();
        promises12To17();
        promises18To22();
        promises23And24();
        promises25To30();
        promises31To34();
        promises35To39();
        System.out.println(sentences + " sentences, " + checked + " answers looked at, " + wrong + " not as due");
        if (wrong != 0) {
            System.exit(1);
        }
    }

    // ---- how answers and states are held against what is due

    private static void says(String quoted) {
        sentence = quoted;
        sentences++;
    }

    private static void due(String call, long got, long want) {
        checked++;
        if (got != want) {
            wrong++;
            System.out.println("'" + sentence + "': " + call + " answered " + got + ", due is " + want);
        }
    }

    /** States that refused calls come upon. */
    private enum Made { NEW, USUAL, FULL_UP, CANT }

    private static BetweenThisAndThat made(Made as) {
        switch (as) {
            case NEW: return fresh();
            case USUAL: return withTape(usual());
            case FULL_UP: return fullUp();
            default:
                BetweenThisAndThat x = withTape(usual());
                x.say(0, 0, 30, 30);
                return x;
        }
    }

    private static BetweenThisAndThat fresh() {
        return new BetweenThisAndThat();
    }

    /** a 10 .. 20, b 27 .. 43, c 55, d 61 .. 89, e 6, f 0 .. 999. */
    private static BetweenThisAndThat usual() {
        BetweenThisAndThat x = fresh();
        x.say(0, 0, 10, 20);
        x.say(13, 1, 30, 40);
        x.say(25, 2, 50, 60);
        x.say(32, 3, 70, 80);
        x.link(0, 1, 5, 40);
        x.link(1, 2, -9, 60);
        x.set(4);
        textOf(x, "reckons a*b-c;costs a-5;meets a<b;");
        textOf(x, "reckons d-e*2;costs 0;meets not f;");
        x.force(1);
        x.image();
        x.say(44, 4, 5, 8);
        x.link(3, 4, -99, -1);
        x.set(7);
        x.force(2);
        fill(x, 0, BYTES, 12, 30, 55, 70, 6, 1);
        fill(x, 1, SHORTS, 300, -1, 0, 4, 5, 6, 7);
        fill(x, 2, INTS, MOST, LEAST, 3, 4, 5);
        return x;
    }

    private static BetweenThisAndThat withTape(BetweenThisAndThat x) {
        feedAll(x, "reckons 7;costs 7;meets 7;");
        return x;
    }

    private static BetweenThisAndThat fullUp() {
        BetweenThisAndThat x = fresh();
        for (int s = 0; s < 10; s++) {
            x.say(10 * (s % 6) + s % 4, s % 6, 100 + s, 200 + s);
        }
        for (int k = 0; k < 8; k++) {
            x.link(k % 6, (k + 1) % 6, -500 - k, 500 + k);
        }
        x.set(99);
        for (int t = 1; t < 6; t++) {
            textOf(x, "reckons a*" + t + ";costs " + t + ";meets " + t % 2 + ";");
        }
        x.force(5);
        x.image();
        x.sheet(0, INTS, 40);
        x.cell(0, 39, MOST);
        fill(x, 1, SHORTS, 1, 2, 3, 4, 5, 6);
        fill(x, 2, BYTES, 7, 8, 9, 10, 11, 12);
        fill(x, 3, INTS, 101, 102, 103, 104, 105, 106);
        feedAll(x, "x".repeat(160));
        return x;
    }

    private static void feedAll(BetweenThisAndThat x, String bytes) {
        for (int i = 0; i < bytes.length(); i += 5) {
            int n = Math.min(5, bytes.length() - i);
            int[] five = new int[5];
            for (int k = 0; k < n; k++) {
                five[k] = bytes.charAt(i + k);
            }
            x.feed(n, five[0], five[1], five[2], five[3], five[4]);
        }
    }

    private static int textOf(BetweenThisAndThat x, String bytes) {
        feedAll(x, bytes);
        return x.text();
    }

    private static void fill(BetweenThisAndThat x, int s, int sort, int... cells) {
        x.sheet(s, sort, cells.length);
        for (int i = 0; i < cells.length; i++) {
            x.cell(s, i, cells[i]);
        }
    }

    /** All that can be told of an object; it is used up by this. */
    private static List<Long> look(BetweenThisAndThat x) {
        List<Long> seen = new ArrayList<>();
        lookAtTold(x, seen);
        int links = x.count(1);
        int texts = x.count(3);
        for (int k = 0; k < links; k++) {
            for (int what = 0; what < 4; what++) {
                seen.add((long) x.linkTold(k, what));
            }
        }
        for (int q = 0; q < 6; q++) {
            seen.add((long) x.span(q, 0));
            seen.add((long) x.span(q, 1));
        }
        for (int t = 0; t < texts; t++) {
            seen.add(x.between(t, 0));
            seen.add(x.between(t, 1));
        }
        for (int s = 3; s >= 0; s--) {
            lookAtSheet(x, s, seen);
        }
        seen.add((long) x.back());
        lookAtTold(x, seen);
        for (int t = 0; t < texts; t++) {
            x.force(t);
            seen.add((long) x.inch());
            seen.add((long) x.drawn(5, 6));
        }
        seen.add((long) x.text());
        seen.add(x.between(x.count(3) - 1, 0));
        seen.add((long) x.count(5));
        return seen;
    }

    private static void lookAtTold(BetweenThisAndThat x, List<Long> seen) {
        for (int what = 0; what < 6; what++) {
            seen.add((long) x.count(what));
        }
        int sayings = x.count(0);
        for (int s = 0; s < sayings; s++) {
            for (int what = 0; what < 5; what++) {
                seen.add((long) x.told(s, what));
            }
        }
    }

    private static int sortOf(BetweenThisAndThat x, int s) {
        for (int sort = BYTES; sort <= INTS; sort++) {
            if (x.sayingsBy(s, sort, 0, 0) == 0) {
                return sort;
            }
        }
        return MISSING;
    }

    private static int sizeOf(BetweenThisAndThat x, int s) {
        int size = 0;
        for (int step = 32; step > 0; step /= 2) {
            size += x.copy(s, size + step, s, size + step, 0) == 0 ? step : 0;
        }
        return size;
    }

    /** Sheet 3, which comes first, is what the others' numbers are told by. */
    private static void lookAtSheet(BetweenThisAndThat x, int s, List<Long> seen) {
        int sort = sortOf(x, s);
        int size = sort == MISSING ? 0 : sizeOf(x, s);
        seen.add((long) sort);
        seen.add((long) size);
        if (s < 3) {
            x.sheet(3, Math.max(BYTES, sort), 6);
        } else if (size == 6) {
            seen.add(x.reckon(3, 0));
            x.cell(3, 0, 0);
            seen.add(x.reckon(3, 0));
        }
        for (int i = s == 3 ? 2 : 0; i < size; i++) {
            x.copy(s, i, 3, 0, 1);
            seen.add(x.reckon(3, 0));
        }
    }

    private static void same(String call, BetweenThisAndThat x, List<Long> before) {
        checked++;
        List<Long> now = look(x);
        if (!now.equals(before)) {
            wrong++;
            System.out.println("'" + sentence + "': " + call + " changed something: " + before + " became " + now);
        }
    }

    private static void unchanged(Made as, String call, BetweenThisAndThat x) {
        same(call, x, looks.computeIfAbsent(as, each -> look(made(each))));
    }

    private static void refused(Made as, String call, long answer, Call how) {
        BetweenThisAndThat x = made(as);
        due(call, how.on(x), answer);
        unchanged(as, call, x);
    }

    /** The numbers next to low .. high, and the farthest ones, are refused. */
    private static void onlyOf(int low, int high, Made as, String call, long answer, ByOne how) {
        for (int v : new int[] {low - 1, high + 1, LEAST, MOST}) {
            refused(as, call + " with " + v, answer, how.of(v));
        }
    }

    // ---- Terms

    private static void quantitiesSayingsLinks() {
        says("QUANTITIES 0 .. 5 (a .. f)");
        onlyOf(0, 5, Made.USUAL, "say", BAD, q -> x -> x.say(0, q, 1, 2));
        onlyOf(0, 5, Made.USUAL, "link from", BAD, q -> x -> x.link(q, 1, 1, 2));
        onlyOf(0, 5, Made.USUAL, "link to", BAD, q -> x -> x.link(1, q, 1, 2));
        onlyOf(0, 5, Made.USUAL, "span", NO_SUCH, q -> x -> x.span(q, 0));
        onlyOf(0, 5, Made.USUAL, "apart", NOT_APART, q -> x -> x.apart(q, 1, 0));
        onlyOf(0, 5, Made.USUAL, "apart", NOT_APART, q -> x -> x.apart(1, q, 0));
        onlyOf(0, 5, Made.USUAL, "exact", NO, q -> x -> x.exact(0, q, 10));
        onlyOf(0, 5, Made.USUAL, "wager", NO, q -> x -> x.wager(q, 10, 0));
        onlyOf(0, 5, Made.USUAL, "less", NO, q -> x -> x.less(q, 1, 0));
        onlyOf(0, 5, Made.USUAL, "less", NO, q -> x -> x.less(1, q, 0));
        for (int q = 0; q <= 5; q += 5) {
            BetweenThisAndThat x = fresh();
            due("say of " + q, x.say(0, q, 10, 19), 0);
            due("link from " + q, x.link(q, 5 - q, 1, 2), 0);
            due("link to " + q, x.link(5 - q, q, -2, -1), 1);
            due("span of " + q, x.span(q, 1), 19);
            due("apart of " + q, x.apart(q, 5 - q, 1), 2);
            due("apart of " + q, x.apart(5 - q, q, 1), -1);
            due("exact of " + q, x.exact(0, q, 10), q == 0 ? 999 : 1000);
            due("wager of " + q, x.wager(q, 10, 1), 10);
            // 10 .. 19 and 11 .. 21: 65 of 110 pairs
            due("less of " + q, x.less(q, 5 - q, 0), 13);
            due("less of " + q, x.less(q, 5 - q, 1), 22);
        }
        wholeNumbers();
        sayingsOfTerms();
        linksOfTerms();
    }

    private static void wholeNumbers() {
        says("each a whole number of 0 .. 999");
        BetweenThisAndThat x = fresh();
        for (int q = 0; q < 6; q++) {
            due("the least", x.span(q, 0), 0);
            due("the most", x.span(q, 1), 999);
        }
        x.link(0, 1, 998, 999);
        due("a of b at most 999", x.span(0, 1), 1);
        due("b of a at least 0", x.span(1, 0), 998);
        x.link(1, 2, -999, -999);
        due("b by c", x.span(1, 0), 999);
        due("a by b", x.span(0, 1), 1);
        due("c", x.span(2, 1), 0);
        x.link(0, 2, -999, -1);
        due("a above c", x.span(0, 0), 1);
        due("a above c", x.span(0, 1), 1);
        x.link(0, 2, -999, -2);
        due("a above 1", x.can(), 0);
    }

    private static void sayingsOfTerms() {
        says("SAYINGS are numbered from 0 on, 10 at most");
        BetweenThisAndThat x = fresh();
        for (int s = 0; s < 10; s++) {
            due("say", x.say(0, 0, 0, s), s);
        }
        due("an eleventh", x.say(0, 0, 0, 0), FULL);
        due("unsay", x.unsay(), 9);
        due("a tenth again", x.say(0, 5, 5, 5), 9);
        due("an eleventh again", x.say(0, 0, 0, 0), FULL);
        refused(Made.FULL_UP, "an eleventh", FULL, y -> y.say(0, 0, 100, 200));
        says("LOW, HIGH (0 .. 999, LOW no more than HIGH)");
        int[][] fit = {{0, 0}, {0, 999}, {999, 999}, {500, 500}, {500, 501}, {0, 1}, {998, 999}};
        for (int[] each : fit) {
            due("say " + each[0] + " " + each[1], fresh().say(0, 0, each[0], each[1]), 0);
        }
        int[][] unfit = {{-1, 0}, {-1, -1}, {-1, 999}, {0, 1000}, {1000, 1000}, {999, 1000}, {1, 0}, {999, 998},
            {500, 499}, {999, 0}, {LEAST, 0}, {0, LEAST}, {0, MOST}, {MOST, MOST}, {LEAST, MOST}, {MOST, LEAST}};
        for (int[] each : unfit) {
            refused(Made.USUAL, "say " + each[0] + " " + each[1], BAD, y -> y.say(0, 0, each[0], each[1]));
        }
        says("of a KIND, OF a QUANTITY, LOW, HIGH, MORE (0 .. 9)");
        for (int kindMore = 0; kindMore < 60; kindMore++) {
            x = fresh();
            due("say " + kindMore, x.say(kindMore, 3, 1, 2), 0);
            due("KIND of " + kindMore, x.told(0, 0), kindMore / 10);
            due("MORE of " + kindMore, x.told(0, 4), kindMore % 10);
        }
        onlyOf(0, 59, Made.USUAL, "say", BAD, v -> y -> y.say(v, 0, 10, 20));
    }

    private static void linksOfTerms() {
        says("LINKS are numbered from 0 on, 8 at most");
        BetweenThisAndThat x = fresh();
        x.image();
        for (int k = 0; k < 8; k++) {
            due("link", x.link(0, 1, 0, k), k);
        }
        due("a ninth", x.link(0, 1, 0, 9), FULL);
        x.back();
        due("one again", x.link(0, 1, 0, 9), 0);
        refused(Made.FULL_UP, "a ninth", FULL, y -> y.link(0, 1, -999, 999));
        says("from one QUANTITY to another one");
        for (int q = 0; q < 6; q++) {
            int alike = q;
            refused(Made.USUAL, "link from " + q + " to itself", BAD, y -> y.link(alike, alike, -999, 999));
        }
        says("LOW, HIGH (-999 .. 999 likewise)");
        int[][] fit = {{-999, -999}, {-999, 999}, {999, 999}, {0, 0}, {-1, 0}, {0, 1}, {998, 999}, {-5, -5}};
        for (int[] each : fit) {
            due("link " + each[0] + " " + each[1], fresh().link(0, 1, each[0], each[1]), 0);
        }
        int[][] unfit = {{-1000, 0}, {-1000, -1000}, {0, 1000}, {1000, 1000}, {1, 0}, {-998, -999}, {999, 998},
            {0, -1}, {999, -999}, {LEAST, 0}, {0, MOST}, {LEAST, MOST}, {MOST, LEAST}, {MOST, MOST}, {LEAST, LEAST}};
        for (int[] each : unfit) {
            refused(Made.USUAL, "link " + each[0] + " " + each[1], BAD, y -> y.link(0, 1, each[0], each[1]));
        }
        says("the latter, less the former, is of LOW .. HIGH");
        int[][] ahead = {{6, 9, 0}, {5, 5, 1}, {-9, 4, 0}, {5, 9, 1}, {-9, 5, 1}, {-5, -5, 0}, {-9, -5, 0}};
        for (int[] each : ahead) {
            x = fresh();
            x.say(0, 0, 10, 10);
            x.say(0, 1, 15, 15);
            x.link(0, 1, each[0], each[1]);
            due("a 10, b 15, linked by " + each[0] + " " + each[1], x.can(), each[2]);
        }
    }

    private static void yearAndKinds() {
        says("THE YEAR (0 .. 99; 0 at first)");
        BetweenThisAndThat x = fresh();
        due("at first", x.count(2), 0);
        due("set(99)", x.set(99), 0);
        due("set(0)", x.set(0), 99);
        onlyOf(0, 99, Made.USUAL, "set", BAD, v -> y -> y.set(v));
        says("A MIDDLE: LOW and HIGH together, half (cut)");
        kindIs(40, 0, 0, 0, 0, 0);
        kindIs(40, 0, 1, 0, 0, 0);
        kindIs(40, 1, 2, 0, 1, 1);
        kindIs(40, 1, 3, 0, 2, 2);
        kindIs(40, 0, 999, 0, 499, 499);
        kindIs(40, 998, 999, 0, 998, 998);
        kindIs(40, 999, 999, 0, 999, 999);
        says("0 SAYING: LOW; HIGH");
        kindIs(0, 0, 0, 0, 0, 0);
        kindIs(9, 5, 990, 99, 5, 990);
        kindIs(9, 999, 999, 99, 999, 999);
        says("1 GOSSIP (a SAYING): MORE less; MORE more; FROM, UP TO 0 .. 999, else the bound");
        kindIs(10, 5, 6, 9, 5, 6);
        kindIs(14, 5, 994, 9, 1, 998);
        kindIs(14, 4, 995, 9, 0, 999);
        kindIs(14, 3, 996, 9, 0, 999);
        kindIs(19, 0, 999, 9, 0, 999);
        kindIs(19, 0, 0, 0, 0, 9);
        kindIs(19, 999, 999, 0, 990, 999);
        says("2 SURVEYOR (a SAYING): MORE more, but MIDDLE at most; MORE less, but MIDDLE at least");
        kindIs(20, 10, 20, 9, 10, 20);
        kindIs(24, 10, 20, 9, 14, 16);
        kindIs(25, 10, 20, 9, 15, 15);
        kindIs(26, 10, 20, 9, 15, 15);
        kindIs(24, 10, 21, 9, 14, 17);
        kindIs(25, 10, 21, 9, 15, 16);
        kindIs(26, 10, 21, 9, 15, 15);
        kindIs(27, 10, 21, 9, 15, 15);
        kindIs(29, 0, 0, 9, 0, 0);
        kindIs(29, 0, 1, 9, 0, 0);
        kindIs(21, 998, 999, 9, 998, 998);
        kindIs(29, 999, 999, 9, 999, 999);
        says("3 TALE (a GOSSIP): y less; y more");
        kindIs(32, 10, 990, 0, 8, 992);
        kindIs(32, 10, 991, 6, 2, 999);
        kindIs(32, 10, 990, 7, 1, 999);
        kindIs(32, 10, 989, 7, 1, 998);
        kindIs(32, 10, 989, 8, 0, 999);
        kindIs(32, 10, 989, 9, 0, 999);
        kindIs(30, 99, 900, 98, 1, 998);
        kindIs(30, 99, 900, 99, 0, 999);
        kindIs(39, 109, 890, 99, 1, 998);
        kindIs(39, 108, 891, 99, 0, 999);
        kindIs(39, 107, 892, 99, 0, 999);
        says("4 EXACT (a SURVEYOR): MIDDLE; MIDDLE, if y is MORE or more");
        kindIs(45, 10, 31, 4, 15, 26);
        kindIs(45, 10, 31, 5, 20, 20);
        kindIs(45, 10, 31, 6, 20, 20);
        kindIs(41, 10, 31, 0, 11, 30);
        kindIs(41, 10, 31, 1, 20, 20);
        kindIs(49, 10, 31, 8, 19, 22);
        kindIs(49, 10, 31, 9, 20, 20);
        kindIs(49, 10, 31, 99, 20, 20);
        kindIs(40, 10, 31, 0, 20, 20);
        says("5 VAGUE (a SAYING): UP TO 999");
        kindIs(50, 0, 0, 0, 0, 999);
        kindIs(59, 5, 6, 99, 5, 999);
        kindIs(59, 999, 999, 99, 999, 999);
    }

    private static void kindIs(int kindMore, int low, int high, int year, int from, int upTo) {
        BetweenThisAndThat x = fresh();
        x.say(kindMore, 2, low, high);
        x.set(year);
        String which = kindMore + " " + low + " " + high + " in " + year;
        due("FROM of " + which, x.told(0, 5), from);
        due("UP TO of " + which, x.told(0, 6), upTo);
        due("the least by " + which, x.span(2, 0), from);
        due("the most by " + which, x.span(2, 1), upTo);
        fill(x, 0, INTS, 0, 0, from - 1, 0, 0, 0);
        due("below FROM of " + which, x.lies(0), 1);
        x.cell(0, 2, from);
        due("FROM itself of " + which, x.lies(0), 0);
        x.cell(0, 2, upTo);
        due("UP TO itself of " + which, x.lies(0), 0);
        x.cell(0, 2, upTo + 1);
        due("above UP TO of " + which, x.lies(0), 1);
    }

    // ---- texts

    private static void textIs(String bytes, int answer) {
        BetweenThisAndThat x = fresh();
        due("text() of '" + bytes + "'", textOf(x, bytes), answer);
        due("texts behind '" + bytes + "'", x.count(3), answer > 0 ? 2 : 1);
        due("the tape behind '" + bytes + "'", x.count(5), 0);
    }

    private static void faultAt(String bytes, int place) {
        textIs(bytes, -100 - place);
    }

    private static void tapeAndTokens() {
        says("A TEXT is read from THE TAPE (160 bytes at most)");
        String whole = "reckons a;costs 1;meets 1;";
        textIs(whole + " ".repeat(160 - whole.length()), 1);
        textIs(" ".repeat(160 - whole.length()) + whole, 1);
        String sum = "reckons 1" + "+1".repeat(65) + "+12;costs 1;meets 1;";
        BetweenThisAndThat x = fresh();
        feedAll(x, sum.substring(0, 9) + " ".repeat(160 - sum.length()) + sum.substring(9));
        due("160 bytes", x.count(5), 160);
        due("a text of 160 bytes", x.text(), 1);
        due("what it reckons", x.between(1, 0), 78);
        faultAt(" ".repeat(160), 160);
        faultAt(" ".repeat(159) + "x", 159);
        faultAt("reckons" + " ".repeat(153), 160);
        faultAt("reckons a;costs 1;meets 1" + "+1".repeat(67) + "+", 160);
        says("TOKENS, each as long as can be: WORDS, NUMBERS (more than 4 are too long)");
        faultAt("reckonsa" + REST, 0);
        faultAt("reckon a" + REST, 0);
        faultAt("reckonss a" + REST, 0);
        faultAt("rec kons a" + REST, 0);
        faultAt("reckons ab" + REST, 8);
        faultAt("reckons nota" + REST, 8);
        faultAt("reckons aor b" + REST, 8);
        faultAt("reckons 1 orb" + REST, 10);
        textIs("reckons 1or 2and 3" + REST, 1);
        textIs("reckons1or2;costs1;meets1;", 1);
        textIs("reckons not(a)or(b)and-c" + REST, 1);
        textIs("reckons 9999" + REST, 1);
        textIs("reckons 0000" + REST, 1);
        faultAt("reckons 10000" + REST, 8);
        faultAt("reckons 00000" + REST, 8);
        faultAt("reckons 1+99999" + REST, 10);
        faultAt("reckons " + "1".repeat(152), 8);
        faultAt("reckons 12 34" + REST, 11);
        faultAt("reckons 1a" + REST, 9);
        faultAt("reckons a1" + REST, 9);
        wordsNextToKeys();
        says("blanks (32, 10) may stand between");
        textIs("\n reckons \n\n( a\n) ; costs\n1 ;\nmeets 1\n;\n \n", 1);
        textIs("reckons(a);costs(1);meets(1);", 1);
        eachByte();
    }

    /** Each key with one letter changed, doubled or left out. */
    private static void wordsNextToKeys() {
        says("a WORD that is neither KEY nor NAME");
        String[] keys = {"reckons", "costs", "meets", "or", "and", "not"};
        String[] ahead = {"", "reckons a;", "reckons a;costs 1;", "reckons a ", "reckons a ", "reckons "};
        String[] behind = {" a;costs 1;meets 1;", " 1;meets 1;", " 1;", " b" + REST, " b" + REST, " b" + REST};
        for (int k = 0; k < keys.length; k++) {
            String key = keys[k];
            textIs(ahead[k] + key + behind[k], 1);
            for (int i = 0; i < key.length(); i++) {
                String head = key.substring(0, i);
                String tail = key.substring(i + 1);
                char next = (char) (key.charAt(i) == 'z' ? 'a' : key.charAt(i) + 1);
                faultAt(ahead[k] + head + next + tail + behind[k], ahead[k].length());
                faultAt(ahead[k] + head + key.charAt(i) + key.charAt(i) + tail + behind[k], ahead[k].length());
                faultAt(ahead[k] + head + tail + behind[k], ahead[k].length());
            }
        }
    }

    /** Each of 256 bytes behind a name, and where an expression begins. */
    private static void eachByte() {
        says("also of a byte that begins none");
        for (int one = 0; one < 256; one++) {
            boolean blank = one == 32 || one == 10;
            boolean letter = one >= 'a' && one <= 'z';
            boolean digit = one >= '0' && one <= '9';
            boolean behindOne = ";+-*<=".indexOf(one) >= 0;
            boolean name = one >= 'a' && one <= 'f';
            textIs("reckons a" + (char) one + REST,
                    blank ? 1 : -100 - (letter ? 8 : behindOne ? 10 : 9));
            textIs("reckons " + (char) one + REST,
                    name || digit ? 1 : -100 - (blank || one == '(' || one == '-' ? 9 : 8));
            textIs((char) one + "reckons a" + REST, blank ? 1 : -100);
            textIs("reckons a" + REST + (char) one, blank ? 1 : -126);
        }
    }

    private static final String[] TOKENS = {
        "reckons", "costs", "meets", "or", "and", "not", "a", "1", "(", ")", ";", "+", "-", "*", "<", "="};
    private static final String ONE = " a 1 ( - ", ANY = ONE + "not ";
    private static final String SUMS = " + - * or and ", ALL = SUMS + "< = ";

    /** What stands ahead, and behind it the tokens that can stand there. */
    private static final String[][] MAY_COME = {
        {"", " reckons "},
        {"reckons", ANY}, {"reckons a", ALL + "; "}, {"reckons 1", ALL + "; "}, {"reckons ( a )", ALL + "; "},
        {"reckons - a", ALL + "; "}, {"reckons not a", ALL + "; "}, {"reckons a + b", ALL + "; "},
        {"reckons a * b", ALL + "; "}, {"reckons a < b", SUMS + "; "}, {"reckons a = b", SUMS + "; "},
        {"reckons not a = b", SUMS + "; "}, {"reckons a < b + c", SUMS + "; "}, {"reckons a < b * c", SUMS + "; "},
        {"reckons a = b or c", ALL + "; "}, {"reckons a < b and c", ALL + "; "},
        {"reckons a < ( b < c )", SUMS + "; "}, {"reckons ( a < b )", ALL + "; "},
        {"reckons (", ANY}, {"reckons ( a", ALL + ") "}, {"reckons ( a < b", SUMS + ") "},
        {"reckons ( a or b", ALL + ") "}, {"reckons ( ( a )", ALL + ") "},
        {"reckons -", ONE}, {"reckons - -", ONE}, {"reckons not", ANY}, {"reckons not not", ANY},
        {"reckons a +", ONE}, {"reckons a -", ONE}, {"reckons a - -", ONE}, {"reckons a *", ONE},
        {"reckons a <", ONE}, {"reckons a =", ONE}, {"reckons not a <", ONE},
        {"reckons a or", ANY}, {"reckons a and", ANY}, {"reckons a < b or", ANY},
        {"reckons a ;", " costs "}, {"reckons a ; costs", ANY}, {"reckons a ; costs 1", ALL + "; "},
        {"reckons a ; costs 1 < 2", SUMS + "; "}, {"reckons a ; costs 1 ;", " meets "},
        {"reckons a ; costs 1 ; meets", ANY}, {"reckons a ; costs 1 ; meets 1", ALL + "; "},
        {"reckons a ; costs 1 ; meets 1 < 2", SUMS + "; "}, {"reckons a ; costs 1 ; meets 1 ;", " "},
    };

    private static void grammarAndFaults() {
        says("FAULT: the place of the first byte of the first TOKEN that can't stand there"
                + " (the text's size, if it ends too early)");
        for (String[] each : MAY_COME) {
            String ahead = each[0];
            boolean whole = ahead.endsWith("meets 1 ;");
            textIs(ahead, whole ? 1 : -100 - ahead.length());
            textIs(ahead + " \n", whole ? 1 : -102 - ahead.length());
            for (String token : TOKENS) {
                String bytes = ahead + " " + token;
                if (each[1].contains(" " + token + " ")) {
                    textIs(bytes, bytes.endsWith("meets 1 ;") || bytes.endsWith("meets 1 < 2 ;")
                            ? 1 : -100 - bytes.length());
                } else {
                    faultAt(bytes, ahead.length() + 1);
                    faultAt(bytes + " ?", ahead.length() + 1);
                }
            }
            for (String none : new String[] {"g", "z", "ab", "nor", "12345", "00000", "A", "?", "_", "/", "\t"}) {
                faultAt(ahead + " " + none, ahead.length() + 1);
            }
        }
        says("the place of the first: a FAULT behind it does not count");
        faultAt("reckons ) 12345", 8);
        faultAt("reckons 12345 )", 8);
        faultAt("reckons a;costs ;meets ;", 16);
        openOnes();
    }

    private static void openOnes() {
        says("a ( , a not, a - ahead of a ONE while 5 of these are open");
        openDeeper("", "", 0, false);
        says("a ( till its )");
        textIs("reckons (((((a)))))+(((((b)))))" + REST, 1);
        textIs("reckons ((((((a)" + REST, -113);
        textIs("reckons ((((a)+(b))))+((((a)*(b))))" + REST, 1);
        textIs("reckons (((((a)+(b)))))" + REST, 1);
        textIs("reckons ((((a)+((b)))))" + REST, 1);
        faultAt("reckons ((((a)+(((b))))))" + REST, 17);
        faultAt("reckons ((((a)+((-b)))))" + REST, 17);
        says("not and - till what they belong to ends");
        textIs("reckons -----a-----b" + REST, 1);
        textIs("reckons -----a------b" + REST, 1);
        faultAt("reckons -----a-------b" + REST, 20);
        textIs("reckons -----a+(((((b)))))" + REST, 1);
        textIs("reckons -----a*(((((b)))))" + REST, 1);
        textIs("reckons ----(a)+-----b" + REST, 1);
        textIs("reckons ---(-a)+-----b" + REST, 1);
        faultAt("reckons ----(-a)+-----b" + REST, 13);
        faultAt("reckons -----(a)" + REST, 13);
        textIs("reckons not not not not not a<b or not not not not not c" + REST, 1);
        textIs("reckons not not not not not a or (((((b)))))" + REST, 1);
        textIs("reckons not not not not not a and (((((b)))))" + REST, 1);
        faultAt("reckons not not not not not (a)" + REST, 28);
        faultAt("reckons not not not not not a<(b)" + REST, 30);
        faultAt("reckons not not not not not a+(b)" + REST, 30);
        faultAt("reckons not not not not not a*-b" + REST, 30);
        faultAt("reckons not not not not not a=-b" + REST, 30);
        textIs("reckons not not not not a<(b)" + REST, 1);
        BetweenThisAndThat x = fresh();
        due("a fault with five open", textOf(x, "reckons (((((?"), -113);
        due("a fault with five open", textOf(x, "reckons -----?"), -113);
        due("a fault with five open", textOf(x, "reckons not not not not not ?"), -128);
        due("none is open behind a fault", textOf(x, "reckons (((((a)))))" + REST), 1);
        says("each E by itself");
        textIs("reckons -----a;costs (((((1)))));meets not not not not not 1;", 1);
        faultAt("reckons 1;costs ------1;meets 1;", 21);
        faultAt("reckons 1;costs 1;meets ((((((1))))));", 29);
    }

    /** In whatever way five are open, it is a text, and a sixth is the fault. */
    private static void openDeeper(String open, String closed, int deep, boolean behindMinus) {
        if (deep == 5) {
            textIs("reckons " + open + "a" + closed + REST, 1);
        }
        for (String one : new String[] {"(", "-", "not "}) {
            String deeper = (one.equals("(") ? ")" : "") + closed;
            if (deep == 5 || behindMinus && one.equals("not ")) {
                faultAt("reckons " + open + one + "a" + deeper + REST, 8 + open.length());
            } else {
                openDeeper(open + one, deeper, deep + 1, one.equals("-"));
            }
        }
    }

    private static void tells(String e, int want) {
        BetweenThisAndThat x = fresh();
        fill(x, 0, INTS, 1, 2, MOST, LEAST, -1, 0);
        due("text() of " + e, textOf(x, "reckons " + e + REST), 1);
        due(e, x.reckon(0, 1), want);
    }

    private static void whatTextsTell() {
        says("An E is an int (32 bits, wrapping)");
        tells("c", MOST);
        tells("d", LEAST);
        tells("c+a", LEAST);
        tells("c+f", MOST);
        tells("d-a", MOST);
        tells("d-f", LEAST);
        tells("-d", LEAST);
        tells("-c", LEAST + 1);
        tells("f-d", LEAST);
        tells("c*b", -2);
        tells("d*b", 0);
        tells("d*e", LEAST);
        tells("c*c", 1);
        tells("d*d", 0);
        tells("c+c+b", 0);
        tells("9999*9999*9999", -1027349969);
        says("of or, and, not, <, = 1 or 0 (what is not 0 is true)");
        tells("d<c", 1);
        tells("c<d", 0);
        tells("c<c", 0);
        tells("c<c+a", 0);
        tells("d-a<d", 0);
        tells("e<f", 1);
        tells("f<e", 0);
        tells("c=c", 1);
        tells("d=-d", 1);
        tells("c=d", 0);
        tells("c+a=d", 1);
        tells("c=e", 0);
        tells("d or f", 1);
        tells("f or e", 1);
        tells("f or f", 0);
        tells("b or b", 1);
        tells("b and d", 1);
        tells("b and f", 0);
        tells("f and b", 0);
        tells("f and f", 0);
        tells("e and e", 1);
        tells("a*2 and d*2", 0);
        tells("not f", 1);
        tells("not a", 0);
        tells("not e", 0);
        tells("not d", 0);
        tells("not d*2", 1);
        tells("not not c", 1);
        tells("b", 2);
        tells("(b)", 2);
        says("TEXTS are numbered from 0 on, 6 at most; TEXT 0, at first, and THE LAW");
        BetweenThisAndThat x = fresh();
        due("text 0 at first", x.count(3), 1);
        due("the law at first", x.count(4), 0);
        due("a + b", x.between(0, 1), 1998);
        due("costs 1", x.inch(), 1);
        due("meets 1", x.drawn(0, 6), 1);
        for (int t = 1; t < 6; t++) {
            due("text", textOf(x, "reckons " + t + REST), t);
        }
        due("a seventh", textOf(x, "reckons 6" + REST), FULL);
        due("texts", x.count(3), 6);
        onlyOf(0, 5, Made.FULL_UP, "force", BAD, t -> y -> y.force(t));
        onlyOf(0, 2, Made.USUAL, "force", BAD, t -> y -> y.force(t));
        costsAndMeets();
    }

    private static void costsAndMeets() {
        says("reckons any int; costs 0 .. 99, else the bound; meets: not 0");
        String[] costs = {"-1", "0", "1", "98", "99", "100", "9999", "-9999", "9999*9999*9999", "9999*9999*21",
            "0-9999*9999*21-9999*9999"};
        int[] bounded = {0, 0, 1, 98, 99, 99, 99, 0, 0, 99, 99};
        for (int i = 0; i < costs.length; i++) {
            BetweenThisAndThat x = fresh();
            textOf(x, "reckons 0;costs " + costs[i] + ";meets " + costs[i] + ";");
            x.force(1);
            due("costs " + costs[i], x.inch(), bounded[i]);
            int met = i == 1 ? 0 : 1;
            due("meets " + costs[i], x.drawn(0, 6), met);
            due("odds of " + costs[i], x.odds(0, 1, 0), met);
            x.sheet(0, BYTES, 6);
            due("laws of " + costs[i], x.laws(0), 1 + 2 * met);
        }
        BetweenThisAndThat x = fresh();
        // 9999 * 9999 * 21 + 9999 * 4790 + 8416 is the greatest int
        textOf(x, "reckons(9999*9999*21+9999*4790+8416)*(1-2*a)-a" + REST);
        x.say(0, 0, 0, 1);
        due("any int, the least", x.between(1, 0), LEAST);
        due("any int, the most", x.between(1, 1), MOST);
        says("its WIDTH: the most less the least (a long)");
        due("the widest", x.between(1, 2), 4294967295L);
        due("the widest, bought", x.buy(1, 0, 1), 4294967295L);
        due("an exact one", x.exact(1, 0, 1), 0);
        due("worth of what makes it wide", x.worth(1, 0),
                widthOfA(0, 999) - 4294967295L);
    }

    private static long widthOfA(int least, int most) {
        int first = MOST * (1 - 2 * least) - least;
        int last = MOST * (1 - 2 * most) - most;
        return Math.abs((long) first - last);
    }

    // ---- spans, reckonings, what is bought, what is drawn

    private static void spansAndReckonings() {
        says("ALL CAN BE, if there is any row of six numbers");
        BetweenThisAndThat x = fresh();
        x.say(0, 0, 0, 10);
        x.say(0, 0, 10, 20);
        due("one number in common", x.can(), 1);
        due("it", x.span(0, 2), 0);
        x.say(0, 0, 11, 11);
        due("none in common", x.can(), 0);
        says("by which all LINKS hold");
        for (int more = 0; more < 2; more++) {
            x = fresh();
            for (int q = 0; q < 5; q++) {
                x.link(q, q + 1, 199 + (q == 4 ? more : 0), 999);
            }
            due("five links, " + (995 + more), x.can(), 1);
            due("a", x.span(0, 1), 4 - more);
            due("f", x.span(5, 0), 995 + more);
            due("c", x.span(2, 0), 398);
            due("c", x.span(2, 1), 402 - more);
            x.say(0, 0, 4, 999);
            due("a 4 at least", x.can(), 1 - more);
        }
        for (int by = 0; by < 6; by++) {
            x = fresh();
            x.link(by, (by + 1) % 6, 1, 1);
            x.link((by + 2) % 6, by, 1, 1);
            due("apart by way of " + by, x.apart((by + 2) % 6, (by + 1) % 6, 0), 2);
            due("apart by way of " + by, x.apart((by + 1) % 6, (by + 2) % 6, 1), -2);
            x.say(0, (by + 2) % 6, 7, 7);
            due("span by way of " + by, x.span((by + 1) % 6, 0), 9);
        }
        x = fresh();
        x.link(0, 1, 1, 1);
        x.link(1, 2, 1, 1);
        x.link(2, 0, -2, -2);
        due("a ring that holds", x.can(), 1);
        x.link(2, 0, -1, 0);
        due("a ring that can't", x.can(), 0);
        says("from the least to the most that it is in any such row");
        x = fresh();
        x.say(0, 0, 100, 200);
        x.say(0, 5, 150, 160);
        x.link(0, 3, -5, 5);
        x.link(5, 3, 0, 30);
        due("a by d by f", x.span(0, 0), 145);
        due("a by d by f", x.span(0, 1), 195);
        due("d", x.span(3, 0), 150);
        due("d", x.span(3, 1), 190);
        due("f itself", x.span(5, 2), 10);
        says("of all 64 ways in which each QUANTITY could be the least, or the most, of its SPAN, by itself");
        x = fresh();
        x.say(0, 0, 3, 7);
        x.link(0, 1, 0, 0);
        textOf(x, "reckons a-b" + REST);
        due("a link does not tie the ends", x.between(1, 0), -4);
        due("a link does not tie the ends", x.between(1, 1), 4);
        textOf(x, "reckons a*(10-a)" + REST);
        due("only the ends", x.between(2, 0), 21);
        due("only the ends", x.between(2, 2), 0);
        for (int way = 0; way < 64; way++) {
            x = fresh();
            StringBuilder all = new StringBuilder();
            for (int q = 0; q < 6; q++) {
                x.say(0, q, 2, 4);
                all.append(q == 0 ? "" : "*").append('(').append((char) ('a' + q))
                        .append('=').append((way >> q & 1) == 0 ? 2 : 4).append(')');
            }
            textOf(x, "reckons " + all + REST);
            due("way " + way, x.between(1, 1), 1);
            due("no other way than " + way, x.between(1, 0), 0);
        }
    }

    private static void boughtAndDrawn() {
        says("what all its SAYINGS together leave of it ends (n and 1) by 2 (cut) lower, begins n by 2 (cut) higher");
        int[] begins = {10, 10, 11, 11, 12};
        int[] ends = {20, 19, 19, 18, 18};
        for (int n = 0; n <= 4; n++) {
            BetweenThisAndThat x = fresh();
            x.say(0, 0, 10, 25);
            x.say(0, 0, 5, 20);
            textOf(x, "reckons a*a;costs 10;meets 1;");
            x.force(1);
            due(n + " inches", x.buy(1, 10 * n, 1), ends[n] * ends[n] - begins[n] * begins[n]);
            due(n + " inches", x.buy(1, 10 * n, 0), new int[] {0, 1, 11, 111, 1111}[n]);
            due("the span stays", x.span(0, 2), 10);
        }
        says("So SPANS are cut anew");
        BetweenThisAndThat x = fresh();
        x.say(0, 0, 10, 20);
        x.link(0, 1, 5, 5);
        textOf(x, "reckons b*b;costs 0;meets 1;");
        due("b by a's inch", x.buy(1, 1, 1), 24 * 24 - 15 * 15);
        due("b by a's inch", x.buy(1, 1, 0), 1);
        x = fresh();
        x.say(0, 1, 10, 10);
        textOf(x, "reckons b*b;costs 0;meets 1;");
        due("0 .. 999 are cut, too", x.buy(0, 2, 1), 997);
        due("b has none to give", x.buy(1, 1, 0), 1);
        says("DRAWN by a SEED (0 .. 99999)");
        onlyOf(0, 99999, Made.USUAL, "drawn", BAD, v -> y -> y.drawn(v, 0));
        onlyOf(0, 99999, Made.USUAL, "odds", NO, v -> y -> y.odds(v, 1, 0));
        for (int seed : new int[] {0, 1, 44488, 44489, 99998, 99999}) {
            long lot = seed + 1L;
            BetweenThisAndThat y = usual();
            int[] least = {10, 27, 55, 61, 6, 0};
            int[] size = {11, 17, 1, 29, 1, 1000};
            for (int q = 0; q < 6; q++) {
                lot = Math.floorMod(lot * 48271L, 2147483647L);
                due("quantity " + q + " of seed " + seed, y.drawn(seed, q), least[q] + lot % size[q]);
            }
        }
        says("each by itself: LINKS do not matter any more");
        x = fresh();
        x.link(0, 1, 0, 0);
        int apart = 0;
        for (int seed = 0; seed < 20; seed++) {
            apart += x.drawn(seed, 0) != x.drawn(seed, 1) ? 1 : 0;
        }
        due("a and b drawn apart", apart > 0 ? 1 : 0, 1);
    }

    // ---- refusals

    private static void refusalsInOrder() {
        says("REFUSALS, of several the first one told");
        refused(Made.FULL_UP, "feed: BAD ahead of FULL", BAD, x -> x.feed(0, 1, 1, 1, 1, 1));
        refused(Made.FULL_UP, "feed: BAD ahead of FULL", BAD, x -> x.feed(6, 1, 1, 1, 1, 1));
        refused(Made.FULL_UP, "feed: BAD ahead of FULL", BAD, x -> x.feed(1, 1, 1, 1, 1, 256));
        refused(Made.FULL_UP, "say: BAD ahead of FULL", BAD, x -> x.say(60, 0, 0, 0));
        refused(Made.FULL_UP, "say: BAD ahead of FULL", BAD, x -> x.say(0, 6, 0, 0));
        refused(Made.FULL_UP, "say: BAD ahead of FULL", BAD, x -> x.say(0, 0, 1, 0));
        refused(Made.FULL_UP, "link: BAD ahead of FULL", BAD, x -> x.link(0, 0, 0, 0));
        refused(Made.FULL_UP, "link: BAD ahead of FULL", BAD, x -> x.link(0, 1, 1, 0));
        refused(Made.FULL_UP, "text: FULL ahead of the FAULT", FULL, x -> x.text());
        refused(Made.USUAL, "told: -5 ahead of -7", NO_SUCH, x -> x.told(5, 7));
        refused(Made.USUAL, "linkTold: -5 ahead of -7", NO_SUCH, x -> x.linkTold(3, 4));
        refused(Made.USUAL, "span: -5 ahead of -7", NO_SUCH, x -> x.span(6, 5));
        refused(Made.CANT, "span: -5 ahead of -1", NO_SUCH, x -> x.span(6, 0));
        refused(Made.CANT, "span: -7 ahead of -1", NO_WHAT, x -> x.span(0, 5));
        refused(Made.CANT, "judge: BAD ahead of -9", BAD, x -> x.judge(4));
        refused(Made.CANT, "judge: -11 ahead of -9", NOTHING, x -> x.judge(3));
        refused(Made.CANT, "judge: its size ahead of -9", BAD, x -> x.judge(1));
        refused(Made.CANT, "judge", CANT_BE, x -> x.judge(0));
        refused(Made.CANT, "film: BAD ahead of -7", BAD, x -> x.film(4, 2));
        refused(Made.CANT, "film: -7 ahead of -9", NO_WHAT, x -> x.film(0, 2));
        refused(Made.CANT, "film", CANT_BE, x -> x.film(0, 1));
        refused(Made.USUAL, "sheet: BAD ahead of -14", BAD, x -> x.sheet(4, 0, -1));
        refused(Made.USUAL, "sheet: BAD ahead of -14", BAD, x -> x.sheet(0, 3, -1));
        refused(Made.USUAL, "cell: BAD ahead of -11", BAD, x -> x.cell(4, 40, 1));
        refused(Made.USUAL, "cell: -11 ahead of -12", NOTHING, x -> x.cell(3, 40, 1));
        refused(Made.USUAL, "copy: BAD ahead of -11", BAD, x -> x.copy(3, 0, 4, 0, 1));
        refused(Made.USUAL, "copy: BAD ahead of -11", BAD, x -> x.copy(-1, 0, 3, 0, 1));
        refused(Made.USUAL, "copy: -11 ahead of -12", NOTHING, x -> x.copy(0, 0, 3, 0, -1));
        refused(Made.USUAL, "copy: -11 ahead of -12", NOTHING, x -> x.copy(3, -1, 0, 0, 1));
        refused(Made.USUAL, "copy: -13 ahead of -12", OTHER, x -> x.copy(0, -1, 1, 0, 1));
        refused(Made.USUAL, "copy: -13 ahead of -12", OTHER, x -> x.copy(0, 0, 1, 0, -1));
        refused(Made.USUAL, "sayingsBy: BAD ahead of -11", BAD, x -> x.sayingsBy(3, 3, 0, 1));
        refused(Made.USUAL, "sayingsBy: BAD ahead of -11", BAD, x -> x.sayingsBy(3, 0, 0, 11));
        refused(Made.USUAL, "sayingsBy: BAD ahead of -13", BAD, x -> x.sayingsBy(0, 1, 0, 11));
        refused(Made.USUAL, "sayingsBy: BAD ahead of -12", BAD, x -> x.sayingsBy(0, 0, -1, 11));
        refused(Made.USUAL, "sayingsBy: -11 ahead of -12", NOTHING, x -> x.sayingsBy(3, 0, -1, 1));
        refused(Made.USUAL, "sayingsBy: -13 ahead of -12", OTHER, x -> x.sayingsBy(0, 1, -1, 1));
        refused(Made.USUAL, "taken: BAD ahead of -12", BAD, x -> x.taken(18, 7));
        refused(Made.USUAL, "taken: BAD ahead of -11", BAD, x -> x.taken(9, -1));
        refused(Made.USUAL, "taken: -12 ahead of -13", OUTSIDE, x -> x.taken(18, 6));
        refused(Made.USUAL, "taken: -11 ahead of -13", NOTHING, x -> x.taken(9, 6));
        refused(Made.USUAL, "taken: -11 ahead of -13", NOTHING, x -> x.taken(13, 0));
        says("a -1 that is an answer comes behind the refusal of a number");
        refused(Made.NEW, "clashes", BAD, x -> x.clashes(2));
        refused(Made.CANT, "drawn", BAD, x -> x.drawn(0, 7));
        refused(Made.CANT, "drawn", BAD, x -> x.drawn(100000, 0));
        refused(Made.CANT, "drawn", NONE, x -> x.drawn(0, 0));
        refused(Made.CANT, "inch", NONE, x -> x.inch());
        BetweenThisAndThat x = fresh();
        x.link(0, 1, 1, 1);
        x.link(0, 1, 2, 2);
        due("wrong(2)", x.wrong(2), BAD);
        due("wrong(0)", x.wrong(0), NONE);
        says("NO, -100000: none such; ALL CAN'T BE");
        refused(Made.CANT, "apart", NOT_APART, y -> y.apart(4, 5, 0));
        refused(Made.CANT, "between", NO, y -> y.between(0, 0));
        refused(Made.CANT, "buy", NO, y -> y.buy(0, 0, 0));
        refused(Made.CANT, "worth", NO, y -> y.worth(0, 5));
        refused(Made.CANT, "exact", NO, y -> y.exact(0, 1, 30));
        refused(Made.CANT, "wager", NO, y -> y.wager(5, 0, 0));
        refused(Made.CANT, "less", NO, y -> y.less(4, 5, 0));
        refused(Made.CANT, "odds", NO, y -> y.odds(0, 1, 0));
    }

    private static void whatIsAskedChangesNothing() {
        says("What is asked changes nothing, but where it is told");
        for (Made as : Made.values()) {
            BetweenThisAndThat x = made(as);
            for (int i = 0; i < 2; i++) {
                x.count(i);
                x.told(i, 5);
                x.linkTold(i, 2);
                x.can();
                x.span(i, i);
                x.apart(0, 1, i);
                x.clashes(i);
                x.wrong(i);
                x.blame();
                x.between(i, i);
                x.inch();
                x.buy(i, 999, i);
                x.worth(i, i);
                x.exact(i, i, 500);
                x.wager(i, 12, i);
                x.less(1, 0, i);
                x.lies(i);
                x.breaks(i);
                x.judge(i);
                x.reckon(i, i);
                x.laws(i);
                x.drawn(99999, 6 * i);
                x.odds(99999, 20, i);
                x.taken(10 * i, 6 * i);
            }
            unchanged(as, "asking all, of " + as + ",", x);
        }
    }

    // ---- promises

    private static void promises1To6() {
        says("Promise 1: Nothing is said.");
        BetweenThisAndThat x = fresh();
        due("sayings", x.count(0), 0);
        due("links", x.count(1), 0);
        due("year", x.count(2), 0);
        due("tape", x.count(5), 0);
        due("saying 0", x.told(0, 0), NO_SUCH);
        due("link 0", x.linkTold(0, 0), NO_SUCH);
        due("unsay", x.unsay(), STATE);
        due("image", x.back(), STATE);
        for (int s = 0; s < 4; s++) {
            due("sheet", x.cell(s, 0, 0), NOTHING);
        }
        says("Promise 2: 0 SAYINGS, 1 LINKS, 2 THE YEAR, 3 TEXTS, 4 THE LAW, 5 bytes of THE TAPE. BAD.");
        int[] counts = {10, 8, 99, 6, 5, 160};
        int[] usual = {5, 3, 7, 3, 2, 26};
        for (int what = 0; what < 6; what++) {
            due("count of all that can be", fullUp().count(what), counts[what]);
            due("count as usual", made(Made.USUAL).count(what), usual[what]);
        }
        onlyOf(0, 5, Made.USUAL, "count", BAD, what -> y -> y.count(what));
        says("Promise 3: THE YEAR becomes v: which was.");
        x = fresh();
        due("set(1)", x.set(1), 0);
        due("set(1) again", x.set(1), 1);
        due("set(99)", x.set(99), 1);
        due("a refused one", x.set(100), BAD);
        due("set(0)", x.set(0), 99);
        feedEdges();
        textEdges();
        says("Promise 6: A TEXT is THE LAW: which was.");
        x = fullUp();
        due("force(0)", x.force(0), 5);
        due("costs of text 0", x.inch(), 1);
        due("force(5)", x.force(5), 0);
        due("costs of text 5", x.inch(), 5);
        due("force(5) again", x.force(5), 5);
        due("force(6)", x.force(6), BAD);
        due("the law", x.count(4), 5);
        refused(Made.NEW, "force(1)", BAD, y -> y.force(1));
    }

    private static void feedEdges() {
        says("Promise 4: The first n (1 .. 5) of five bytes (0 .. 255 each)");
        onlyOf(1, 5, Made.USUAL, "feed", BAD, n -> y -> y.feed(n, 1, 2, 3, 4, 5));
        onlyOf(0, 255, Made.USUAL, "feed a", BAD, v -> y -> y.feed(1, v, 0, 0, 0, 0));
        onlyOf(0, 255, Made.USUAL, "feed b", BAD, v -> y -> y.feed(1, 0, v, 0, 0, 0));
        onlyOf(0, 255, Made.USUAL, "feed c", BAD, v -> y -> y.feed(1, 0, 0, v, 0, 0));
        onlyOf(0, 255, Made.USUAL, "feed d", BAD, v -> y -> y.feed(1, 0, 0, 0, v, 0));
        onlyOf(0, 255, Made.USUAL, "feed e", BAD, v -> y -> y.feed(1, 0, 0, 0, 0, v));
        for (int n = 1; n <= 5; n++) {
            due("feed " + n, fresh().feed(n, 0, 255, 0, 255, 0), n);
            due("feed " + n, fresh().feed(n, 255, 0, 255, 0, 255), n);
        }
        says("come behind THE TAPE's, one by one");
        String whole = "reckons 1234;costs 56;meets 1;";
        for (int n = 1; n <= 5; n++) {
            BetweenThisAndThat x = fresh();
            for (int i = 0; i < whole.length(); i += n) {
                // what stands behind the first n does not come
                int[] five = {'?', '?', '?', '?', '?'};
                int come = Math.min(n, whole.length() - i);
                for (int k = 0; k < come; k++) {
                    five[k] = whole.charAt(i + k);
                }
                due("feed", x.feed(come, five[0], five[1], five[2], five[3], five[4]), i + come);
            }
            due("text()", x.text(), 1);
            due("what it reckons", x.between(1, 0), 1234);
        }
        says("FULL: they have not all room (none comes)");
        for (int n = 1; n <= 5; n++) {
            BetweenThisAndThat x = fresh();
            feedAll(x, " ".repeat(160 - n));
            due("feed " + n + " into room for " + n, x.feed(n, 32, 32, 32, 32, 32), 160);
            due("feed 1 into no room", x.feed(1, 32, 32, 32, 32, 32), FULL);
            x = fresh();
            feedAll(x, " ".repeat(161 - n));
            due("feed " + n + " into room for " + (n - 1), x.feed(n, 63, 63, 63, 63, 63), FULL);
            due("the tape", x.count(5), 161 - n);
            due("none came", x.text(), -100 - (161 - n));
            int each = n;
            refused(Made.FULL_UP, "feed " + n, FULL, y -> y.feed(each, 1, 2, 3, 4, 5));
        }
    }

    private static void textEdges() {
        says("Promise 5: THE TAPE, which is empty then (by a FAULT, too), is a TEXT: its number");
        BetweenThisAndThat x = fresh();
        due("an empty tape", x.text(), -100);
        due("an empty tape again", x.text(), -100);
        List<Long> bare = look(usual());
        for (String fault : new String[] {"", "x", "reckons", "reckons a;costs 1;meets 1", "reckons 1 {"}) {
            x = usual();
            due("a fault", textOf(x, fault) <= -100 ? 1 : 0, 1);
            same("a fault of '" + fault + "'", x, bare);
        }
        x = fresh();
        due("a text", textOf(x, "reckons 7" + REST), 1);
        due("nothing is left of it", x.text(), -100);
        due("a shorter one behind a longer one", textOf(x, "reckons"), -107);
        due("a text behind a fault", textOf(x, "reckons 8" + REST), 2);
        due("the former stays", x.between(1, 0), 7);
        due("the latter", x.between(2, 0), 8);
        says("FULL (ahead of the FAULT; then THE TAPE stays)");
        for (String bytes : new String[] {"", "x", "reckons 1" + REST}) {
            x = fresh();
            for (int t = 1; t < 6; t++) {
                textOf(x, "reckons " + t + REST);
            }
            due("text() of '" + bytes + "'", textOf(x, bytes), FULL);
            due("the tape", x.count(5), bytes.length());
            due("texts", x.count(3), 6);
            due("text 5", x.between(5, 0), 5);
        }
    }

    private static void promises7To11() {
        says("Promise 7: A SAYING: its number. BAD; FULL.");
        BetweenThisAndThat x = fresh();
        due("the first", x.say(0, 0, 1, 1), 0);
        due("a refused one takes no number", x.say(0, 0, 2, 1), BAD);
        due("the second", x.say(0, 0, 1, 1), 1);
        says("Promise 8: The last SAYING is none any more: how many there are. STATE: there is none.");
        refused(Made.NEW, "unsay", STATE, y -> y.unsay());
        due("unsay", x.unsay(), 1);
        due("unsay", x.unsay(), 0);
        due("unsay", x.unsay(), STATE);
        x = fullUp();
        for (int left = 9; left >= 0; left--) {
            due("unsay", x.unsay(), left);
            due("the last one", x.told(left, 0), NO_SUCH);
        }
        due("unsay", x.unsay(), STATE);
        due("what it told", x.span(0, 4), 999);
        says("Promise 9: -5: no such SAYING; -7: what");
        onlyOf(0, 9, Made.FULL_UP, "told", NO_SUCH, s -> y -> y.told(s, 0));
        onlyOf(0, 4, Made.USUAL, "told", NO_SUCH, s -> y -> y.told(s, 6));
        onlyOf(0, 6, Made.USUAL, "told", NO_WHAT, what -> y -> y.told(4, what));
        refused(Made.NEW, "told", NO_SUCH, y -> y.told(0, 0));
        int[] first = {0, 0, 100, 200, 0, 100, 200};
        int[] last = {3, 3, 109, 209, 1, 9, 309};
        for (int what = 0; what < 7; what++) {
            due("told of 0", fullUp().told(0, what), first[what]);
            due("told of 9", fullUp().told(9, what), last[what]);
        }
        says("FROM, UP TO now");
        x = fresh();
        x.say(31, 0, 50, 60);
        for (int year : new int[] {0, 1, 48, 49, 50, 3}) {
            x.set(year);
            due("FROM in " + year, x.told(0, 5), Math.max(0, 49 - year));
            due("UP TO in " + year, x.told(0, 6), 61 + year);
        }
        says("Promise 10: BAD (alike, too); FULL.");
        x = fresh();
        due("the first", x.link(0, 1, 1, 1), 0);
        due("alike", x.link(1, 1, 0, 0), BAD);
        due("a refused one takes no number", x.link(0, 1, 1, 0), BAD);
        due("the second", x.link(1, 0, -1, -1), 1);
        says("Promise 11: -5: no such LINK; -7: what");
        onlyOf(0, 7, Made.FULL_UP, "linkTold", NO_SUCH, k -> y -> y.linkTold(k, 0));
        onlyOf(0, 2, Made.USUAL, "linkTold", NO_SUCH, k -> y -> y.linkTold(k, 3));
        onlyOf(0, 3, Made.USUAL, "linkTold", NO_WHAT, what -> y -> y.linkTold(2, what));
        refused(Made.NEW, "linkTold", NO_SUCH, y -> y.linkTold(0, 0));
        int[] ahead = {0, 1, -500, 500};
        int[] behind = {1, 2, -507, 507};
        for (int what = 0; what < 4; what++) {
            due("link 0", fullUp().linkTold(0, what), ahead[what]);
            due("link 7", fullUp().linkTold(7, what), behind[what]);
        }
    }

    private static void promises12To17() {
        says("Promise 12: Whether ALL CAN BE (1, 0).");
        for (Made as : Made.values()) {
            due("can of " + as, made(as).can(), as == Made.CANT ? 0 : 1);
        }
        spanAndApartEdges();
        says("Promise 15: Pairs of SAYINGS OF one QUANTITY that have no number in common");
        int[][] pairs = {{0, 10, 11, 20, 1}, {0, 10, 10, 20, 0}, {11, 20, 0, 10, 1}, {10, 20, 0, 10, 0},
            {5, 5, 5, 5, 0}, {5, 5, 6, 6, 1}, {0, 999, 500, 500, 0}, {0, 0, 999, 999, 1}, {999, 999, 0, 0, 1}};
        for (int[] each : pairs) {
            BetweenThisAndThat x = fresh();
            x.say(0, 2, each[0], each[1]);
            x.say(0, 2, each[2], each[3]);
            due("clashes", x.clashes(0), each[4]);
            due("the first", x.clashes(1), each[4] == 1 ? 1 : NONE);
            x = fresh();
            x.say(0, 2, each[0], each[1]);
            x.say(0, 3, each[2], each[3]);
            due("clashes of two", x.clashes(0), 0);
            due("the first of none", x.clashes(1), NONE);
        }
        says("what 0 how many, 1 the first (10 times the lesser, and the other; -1: none). BAD.");
        onlyOf(0, 1, Made.USUAL, "clashes", BAD, what -> y -> y.clashes(what));
        onlyOf(0, 1, Made.CANT, "clashes", BAD, what -> y -> y.clashes(what));
        BetweenThisAndThat x = fresh();
        for (int s = 0; s < 10; s++) {
            x.say(0, 0, s, s);
            due("pairs of " + (s + 1), x.clashes(0), s * (s + 1) / 2);
            due("the first of " + (s + 1), x.clashes(1), s == 0 ? NONE : 1);
        }
        x = fresh();
        for (int s = 0; s < 10; s++) {
            x.say(0, s < 8 ? 0 : 1, s < 8 ? 5 : s, s < 8 ? 5 : s);
        }
        due("the last two", x.clashes(1), 89);
        x = fresh();
        int[] of = {2, 0, 0, 3, 4, 2};
        for (int s = 0; s < 6; s++) {
            x.say(0, of[s], s, s);
        }
        due("2 pairs", x.clashes(0), 2);
        due("0 and 5 ahead of 1 and 2", x.clashes(1), 5);
        wrongAndBlameEdges();
    }

    private static void spanAndApartEdges() {
        says("Promise 13: what 0 the least, 1 the most of its SPAN, 2 the most less the least");
        onlyOf(0, 4, Made.USUAL, "span", NO_WHAT, what -> y -> y.span(5, what));
        onlyOf(0, 4, Made.CANT, "span", NO_WHAT, what -> y -> y.span(5, what));
        int[][] spans = {{10, 20, 10, 10, 20}, {27, 43, 16, 27, 43}, {55, 55, 0, 55, 55}, {61, 89, 28, 61, 89},
            {6, 6, 0, 6, 6}, {0, 999, 999, 0, 999}};
        for (int q = 0; q < 6; q++) {
            for (int what = 0; what < 5; what++) {
                due("span " + q + " " + what, made(Made.USUAL).span(q, what), spans[q][what]);
            }
        }
        says("3 the greatest FROM of its SAYINGS (0: there is none), 4 the least UP TO (999)");
        BetweenThisAndThat x = fresh();
        x.link(0, 1, 500, 500);
        for (int q = 0; q < 6; q++) {
            due("the greatest FROM of none", x.span(q, 3), 0);
            due("the least UP TO of none", x.span(q, 4), 999);
        }
        x.say(0, 0, 1, 998);
        due("of one", x.span(0, 3), 1);
        due("of one", x.span(0, 4), 998);
        x.say(0, 0, 0, 999);
        due("of two", x.span(0, 3), 1);
        due("of two", x.span(0, 4), 998);
        x.say(0, 0, 2, 997);
        due("of three", x.span(0, 3), 2);
        due("of three", x.span(0, 4), 997);
        due("b, of none", x.span(1, 3), 0);
        says("-1 (what 0 .. 2): ALL CAN'T BE");
        for (int q = 0; q < 6; q++) {
            int each = q;
            for (int what = 0; what < 3; what++) {
                int which = what;
                refused(Made.CANT, "span " + q + " " + what, NONE, y -> y.span(each, which));
            }
            due("what 3 of " + q, made(Made.CANT).span(q, 3), q == 0 ? 30 : spans[q][3]);
            due("what 4 of " + q, made(Made.CANT).span(q, 4), spans[q][4]);
        }
        says("Promise 14: By how much b is more than a in any row by which ALL CAN BE, least, most");
        onlyOf(0, 1, Made.USUAL, "apart", NOT_APART, what -> y -> y.apart(0, 1, what));
        x = fresh();
        due("the least of all", x.apart(0, 5, 0), -999);
        due("the most of all", x.apart(0, 5, 1), 999);
        due("of one with itself", x.apart(5, 5, 0), 0);
        due("of one with itself", x.apart(5, 5, 1), 0);
        x.link(0, 5, -3, 4);
        x.say(0, 0, 0, 1);
        x.say(0, 5, 2, 8);
        due("by saying", x.apart(0, 5, 0), 1);
        due("by link", x.apart(0, 5, 1), 4);
        due("the other way", x.apart(5, 0, 0), -4);
        due("the other way", x.apart(5, 0, 1), -1);
    }

    private static void wrongAndBlameEdges() {
        says("Promise 16: The fewest SAYINGS without which ALL CAN BE, of like ones the least as bits");
        onlyOf(0, 1, Made.USUAL, "wrong", BAD, what -> y -> y.wrong(what));
        onlyOf(0, 1, Made.CANT, "wrong", BAD, what -> y -> y.wrong(what));
        due("none, of a new one", fresh().wrong(0), 0);
        due("none, of a new one", fresh().wrong(1), 0);
        due("none of ten", fullUp().wrong(0), 0);
        due("none of ten", fullUp().wrong(1), 0);
        due("a's first", made(Made.CANT).wrong(1), 1);
        BetweenThisAndThat x = fresh();
        for (int s = 0; s < 10; s++) {
            x.say(0, s % 2, s < 2 ? 5 : 6, s < 2 ? 5 : 6);
        }
        due("two of ten", x.wrong(0), 2);
        due("the first two", x.wrong(1), 3);
        x = fresh();
        for (int s = 0; s < 10; s++) {
            x.say(0, 0, s < 9 ? 5 : 6, s < 9 ? 5 : 6);
        }
        due("the last one", x.wrong(0), 1);
        due("the last one", x.wrong(1), 512);
        x = fresh();
        x.say(0, 0, 1, 1);
        x.say(0, 0, 2, 2);
        x.say(0, 1, 1, 1);
        x.say(0, 1, 2, 2);
        x.link(0, 1, 1, 1);
        due("two, by a link", x.wrong(0), 2);
        due("a 1, b 2 are left", x.wrong(1), 2 + 4);
        x = fresh();
        for (int s = 0; s < 10; s++) {
            x.say(0, 0, 1, 1);
        }
        x.link(0, 1, 999, 999);
        due("all ten", x.wrong(0), 10);
        due("all ten", x.wrong(1), 1023);
        says("-1: it can't be without all");
        x.link(1, 0, 0, 0);
        due("not without all", x.wrong(0), NONE);
        due("not without all", x.wrong(1), NONE);
        says("Promise 17: If ALL CAN'T BE: LINKS (bits) without each of which alone it can; else 0.");
        due("of a new one", fresh().blame(), 0);
        due("ALL CAN BE", fullUp().blame(), 0);
        due("by sayings alone", made(Made.CANT).blame(), 0);
        for (int first = 0; first <= 2; first += 2) {
            x = fresh();
            for (int k = 0; k < first; k++) {
                x.link(0, 1, -999, 999);
            }
            for (int q = 0; q < 6; q++) {
                x.link(q, (q + 1) % 6, q == 5 ? -4 : 1, 999);
            }
            due("a ring of six", x.blame(), 63 << first);
        }
        x = fresh();
        x.link(0, 1, 5, 5);
        x.say(0, 0, 10, 10);
        x.say(0, 1, 15, 15);
        due("it can", x.blame(), 0);
        x.link(0, 1, 6, 6);
        due("the one that is wrong", x.blame(), 2);
        x.link(2, 3, 1, 1);
        x.link(3, 2, 1, 1);
        due("none alone", x.blame(), 0);
    }

    private static void promises18To22() {
        says("Promise 18: RECKONING of a TEXT: what 0 the least, 1 the most, 2 its WIDTH. NO: none such");
        onlyOf(0, 5, Made.FULL_UP, "between", NO, t -> y -> y.between(t, 0));
        onlyOf(0, 2, Made.USUAL, "between", NO, t -> y -> y.between(t, 2));
        onlyOf(0, 2, Made.USUAL, "between", NO, what -> y -> y.between(0, what));
        due("text 5", fullUp().between(5, 2), 5L * fullUp().span(0, 2));
        says("Promise 19: What an inch costs: costs of THE LAW, QUANTITIES being the least of their SPANS");
        for (int low : new int[] {0, 1, 98, 99, 100, 999}) {
            BetweenThisAndThat x = fresh();
            x.say(0, 3, low, 999);
            textOf(x, "reckons 1;costs d;meets 1;");
            due("by the first law", x.inch(), 1);
            x.force(1);
            due("costs d, from " + low, x.inch(), Math.min(99, low));
        }
        buyEdges();
        says("Promise 21: How much greater the WIDTH of a TEXT is without a SAYING than with it");
        onlyOf(0, 2, Made.USUAL, "worth", NO, t -> y -> y.worth(t, 0));
        onlyOf(0, 4, Made.USUAL, "worth", NO, s -> y -> y.worth(0, s));
        onlyOf(0, 9, Made.FULL_UP, "worth", NO, s -> y -> y.worth(0, s));
        onlyOf(0, 5, Made.FULL_UP, "worth", NO, t -> y -> y.worth(t, 0));
        refused(Made.NEW, "worth", NO, y -> y.worth(0, 0));
        BetweenThisAndThat x = fresh();
        for (int s = 0; s < 10; s++) {
            x.say(0, 0, s, 999 - s);
        }
        due("the first", x.worth(0, 0), 0);
        due("the last", x.worth(0, 9), 2);
        x.unsay();
        due("the last but one", x.worth(0, 8), 2);
        due("the one that was", x.worth(0, 9), NO);
        says("Promise 22: were a QUANTITY just v (0 .. 999), whatever SAYINGS OF it tell");
        onlyOf(0, 999, Made.USUAL, "exact", NO, v -> y -> y.exact(0, 5, v));
        onlyOf(0, 2, Made.USUAL, "exact", NO, t -> y -> y.exact(t, 5, 0));
        onlyOf(0, 5, Made.FULL_UP, "exact", NO, t -> y -> y.exact(t, 0, 150));
        due("f 0", made(Made.USUAL).exact(0, 5, 0), 26);
        due("f 999", made(Made.USUAL).exact(0, 5, 999), 26);
        due("a 12", made(Made.USUAL).exact(0, 0, 12), 16);
        due("a 9, whatever is told", made(Made.USUAL).exact(0, 0, 9), 16);
        due("a 3: b 43 at most", made(Made.USUAL).exact(0, 0, 3), 16);
        due("a 2: b 42 at most", made(Made.USUAL).exact(0, 0, 2), 15);
        says("NO: ALL CAN'T BE so");
        // b is 27 .. 43, and 5 .. 40 more than a
        due("a 38", made(Made.USUAL).exact(0, 0, 38), 0);
        refused(Made.USUAL, "a 39", NO, y -> y.exact(0, 0, 39));
        due("a 0", made(Made.USUAL).exact(0, 0, 0), 13);
        due("ALL CAN'T BE, but so", made(Made.CANT).exact(0, 0, 12), 16);
        refused(Made.CANT, "b 30 does not help", NO, y -> y.exact(0, 1, 30));
    }

    private static void bought(int cost, int coin, int inches) {
        BetweenThisAndThat x = fresh();
        textOf(x, "reckons a;costs " + cost + ";meets 1;");
        x.force(1);
        due("digits for " + coin + " at " + cost, x.buy(1, coin, 0), new int[] {0, 1, 11, 111, 1111}[inches]);
        due("width for " + coin + " at " + cost, x.buy(1, coin, 1), 999 - inches);
    }

    private static void buyEdges() {
        says("Promise 20: n inches, 4 at most (as many, if one costs 0), that cost no more than coin (0 .. 999)");
        onlyOf(0, 999, Made.USUAL, "buy", NO, coin -> y -> y.buy(0, coin, 0));
        onlyOf(0, 2, Made.USUAL, "buy", NO, t -> y -> y.buy(t, 4, 0));
        onlyOf(0, 5, Made.FULL_UP, "buy", NO, t -> y -> y.buy(t, 4, 0));
        onlyOf(0, 1, Made.USUAL, "buy", NO, what -> y -> y.buy(0, 4, what));
        bought(0, 0, 4);
        bought(0, 1, 4);
        bought(0, 999, 4);
        bought(1, 0, 0);
        bought(1, 1, 1);
        bought(1, 3, 3);
        bought(1, 4, 4);
        bought(1, 5, 4);
        bought(1, 999, 4);
        bought(7, 6, 0);
        bought(7, 7, 1);
        bought(7, 13, 1);
        bought(7, 14, 2);
        bought(7, 20, 2);
        bought(7, 21, 3);
        bought(7, 27, 3);
        bought(7, 28, 4);
        bought(99, 98, 0);
        bought(99, 99, 1);
        bought(99, 395, 3);
        bought(99, 396, 4);
        bought(200, 98, 0);
        bought(200, 396, 4);
        says("of like ones the first: as digits, 1 more than the QUANTITY each, by QUANTITIES");
        BetweenThisAndThat x = fresh();
        String[] e = {"f", "e+f", "a-f", "f+e+d+c+b+a", "1", "(b=0)*f", "c*2+d", "c+d*2"};
        long[] digits = {66, 55, 11, 11, 11, 22, 33, 44};
        for (int i = 0; i < e.length; i++) {
            x = fresh();
            textOf(x, "reckons " + e[i] + REST);
            due("buy two for " + e[i], x.buy(1, 2, 0), digits[i]);
        }
        x = fresh();
        x.say(0, 0, 10, 11);
        x.say(0, 1, 20, 21);
        for (int q = 2; q < 6; q++) {
            x.say(0, q, q, q + 1);
        }
        int[] firsts = {1, 12, 123, 1234};
        textOf(x, "reckons a+b+c+d+e+f" + REST);
        for (int n = 1; n <= 4; n++) {
            due("one inch each, " + n, x.buy(1, n, 0), firsts[n - 1]);
            due("one inch each, " + n, x.buy(1, n, 1), 6 - n);
        }
        textOf(x, "reckons f+e" + REST);
        due("none for naught: a's inch comes first of the rest", x.buy(2, 3, 0), 156);
        due("its width", x.buy(2, 3, 1), 0);
        says("ALL BEING so that it CAN BE; NO: by any way");
        x = fresh();
        for (int q = 0; q < 6; q++) {
            x.say(0, q, 5, q == 5 ? 8 : 5);
        }
        due("f's three", x.buy(0, 3, 0), 666);
        // by four f would be 7 .. 6
        due("f's four", x.buy(0, 4, 0), NO);
        due("f's four", x.buy(0, 4, 1), NO);
        due("nothing bought", x.buy(0, 0, 0), 0);
        due("nothing bought", x.buy(0, 0, 1), 0);
        x.say(0, 0, 6, 6);
        due("ALL CAN'T BE now", x.buy(0, 0, 1), NO);
    }

    private static void promises23And24() {
        says("Promise 23: how many are no more than v (0 .. 999), of all of them, in lowest terms");
        onlyOf(0, 999, Made.USUAL, "wager", NO, v -> y -> y.wager(5, v, 0));
        onlyOf(0, 1, Made.USUAL, "wager", NO, part -> y -> y.wager(5, 5, part));
        // f 0 .. 999, a 10 .. 20, c 55
        int[][] wagers = {{5, 0, 1, 1000}, {5, 1, 1, 500}, {5, 498, 499, 1000}, {5, 499, 1, 2}, {5, 998, 999, 1000},
            {5, 999, 1, 1}, {0, 0, 0, 1}, {0, 9, 0, 1}, {0, 10, 1, 11}, {0, 11, 2, 11}, {0, 19, 10, 11},
            {0, 20, 1, 1}, {0, 21, 1, 1}, {0, 999, 1, 1}, {2, 54, 0, 1}, {2, 55, 1, 1}, {2, 56, 1, 1}};
        for (int[] each : wagers) {
            due("above " + each[0] + " " + each[1], made(Made.USUAL).wager(each[0], each[1], 0), each[2]);
            due("below " + each[0] + " " + each[1], made(Made.USUAL).wager(each[0], each[1], 1), each[3]);
        }
        says("Promise 24: Of all pairs of numbers, in how many a is less. NO: none such (alike, too)");
        onlyOf(0, 1, Made.USUAL, "less", NO, part -> y -> y.less(0, 1, part));
        for (int q = 0; q < 6; q++) {
            int alike = q;
            refused(Made.USUAL, "less of " + q + " and itself", NO, y -> y.less(alike, alike, 0));
        }
        // spans of a and b, what is due above and below the line
        int[][] pairs = {{5, 5, 5, 5, 0, 1}, {5, 5, 6, 6, 1, 1}, {6, 6, 5, 5, 0, 1}, {1, 3, 3, 5, 8, 9},
            {1, 3, 4, 5, 1, 1}, {3, 5, 1, 3, 0, 1}, {3, 5, 1, 4, 1, 12}, {0, 999, 0, 999, 999, 2000},
            {0, 999, 0, 0, 0, 1}, {0, 0, 0, 999, 999, 1000}, {0, 999, 999, 999, 999, 1000}, {999, 999, 0, 999, 0, 1},
            {0, 9, 3, 4, 7, 20}, {3, 4, 0, 9, 11, 20}};
        for (int[] each : pairs) {
            BetweenThisAndThat x = fresh();
            x.say(0, 0, each[0], each[1]);
            x.say(0, 1, each[2], each[3]);
            String which = each[0] + ".." + each[1] + " and " + each[2] + ".." + each[3];
            due("above " + which, x.less(0, 1, 0), each[4]);
            due("below " + which, x.less(0, 1, 1), each[5]);
        }
    }

    private interface BySheet {
        long of(BetweenThisAndThat x, int s);
    }

    private static void truthRefused(String call, long bad, long nothing, BySheet how) {
        onlyOf(0, 3, Made.USUAL, call, bad, s -> x -> how.of(x, s));
        refused(Made.USUAL, call + " of a missing one", nothing, x -> how.of(x, 3));
        refused(Made.USUAL, call + " of seven", bad, x -> how.of(x, 1));
        refused(Made.USUAL, call + " of five", bad, x -> how.of(x, 2));
        refused(Made.FULL_UP, call + " of forty", bad, x -> how.of(x, 0));
        BetweenThisAndThat x = fresh();
        for (int sort = BYTES; sort <= INTS; sort++) {
            x.sheet(1, sort, 0);
            due(call + " of none", how.of(x, 1), bad);
            x.sheet(1, sort, 6);
            due(call + " of six", how.of(x, 1) == bad ? 1 : 0, 0);
        }
    }

    private static void promises25To30() {
        says("Promise 25: SAYINGS (bits) by whose FROM, UP TO it isn't so. BAD: SHEET; -11; BAD: its size isn't 6.");
        truthRefused("lies", BAD, NOTHING, (x, s) -> x.lies(s));
        due("none of none", truth(fresh(), 0, 0, 0, 0, 0, 0).lies(3), 0);
        due("all ten", truth(fullUp(), -1, -1, -1, -1, -1, -1).lies(3), 1023);
        due("farthest", truth(fullUp(), LEAST, LEAST, LEAST, MOST, MOST, MOST).lies(3), 1023);
        due("ALL CAN'T BE", truth(made(Made.CANT), 30, 30, 55, 70, 6, 0).lies(3), 1);
        says("Promise 26: LINKS (bits) that don't hold by it (differences as longs).");
        truthRefused("breaks", BAD, NOTHING, (x, s) -> x.breaks(s));
        due("none of none", truth(fresh(), 0, 0, 0, 0, 0, 0).breaks(3), 0);
        int[][] ends = {{4, 1}, {5, 0}, {9, 0}, {10, 1}};
        for (int[] each : ends) {
            BetweenThisAndThat x = fresh();
            x.link(0, 1, 5, 9);
            due("ahead by " + each[0], truth(x, -100, -100 + each[0], 0, 0, 0, 0).breaks(3), each[1]);
            due("in ints", truth(x, MOST - each[0], MOST, 0, 0, 0, 0).breaks(3), each[1]);
            due("wrapping", truth(x, MOST, LEAST + each[0] - 1, 0, 0, 0, 0).breaks(3), 1);
        }
        due("all eight", truth(fullUp(), 0, 1000, 0, 1000, 0, 1000).breaks(3), 255);
        due("farthest", truth(fullUp(), LEAST, MOST, LEAST, MOST, LEAST, MOST).breaks(3), 255);
        judgeEdges();
        says("Promise 28: What a TEXT reckons by it. NO: refused as of lies(), no such TEXT.");
        truthRefused("reckon", NO, NO, (x, s) -> x.reckon(s, 0));
        onlyOf(0, 2, Made.USUAL, "reckon", NO, t -> x -> x.reckon(0, t));
        onlyOf(0, 5, Made.FULL_UP, "reckon", NO, t -> x -> x.reckon(3, t));
        due("text 5", truth(fullUp(), MOST, 0, 0, 0, 0, 0).reckon(3, 5), MOST * 5);
        due("ALL CAN'T BE", truth(made(Made.CANT), 1, 2, 0, 0, 0, 0).reckon(3, 0), 3);
        says("Promise 29: TEXTS (bits) that count as met by it. BAD, -11, BAD as of lies().");
        truthRefused("laws", BAD, NOTHING, (x, s) -> x.laws(s));
        due("text 0", truth(fresh(), 0, 0, 0, 0, 0, 0).laws(3), 1);
        due("five texts", fullUp().laws(3), 1 + 2 + 8 + 32);
        due("ALL CAN'T BE", truth(made(Made.CANT), 1, 2, 0, 0, 0, 0).laws(3), 7);
        due("not by a text", truth(made(Made.CANT), 2, 2, 0, 0, 0, 1).laws(3), 1);
        filmEdges();
    }

    private static BetweenThisAndThat truth(BetweenThisAndThat x, int... six) {
        fill(x, 3, INTS, six);
        return x;
    }

    private static void judgeEdges() {
        says("Promise 27: The first QUANTITY that is not within its SPAN by it; -1: none.");
        truthRefused("judge", BAD, NOTHING, (x, s) -> x.judge(s));
        int[] least = {10, 27, 55, 61, 6, 0};
        int[] most = {20, 43, 55, 89, 6, 999};
        due("the least of each", truth(usual(), least).judge(3), NONE);
        due("the most of each", truth(usual(), most).judge(3), NONE);
        for (int q = 0; q < 6; q++) {
            int[] below = least.clone();
            below[q]--;
            due("below", truth(usual(), below).judge(3), q);
            int[] above = most.clone();
            above[q]++;
            due("above", truth(usual(), above).judge(3), q);
            if (q < 5) {
                above[5] = LEAST;
                due("the first of two", truth(usual(), above).judge(3), q);
            }
        }
        says("-9: ALL CAN'T BE");
        refused(Made.CANT, "judge", CANT_BE, x -> x.judge(0));
    }

    private static void filmEdges() {
        says("Promise 30: A SHEET truly becomes the least (high 0), the most (1) of each SPAN (ints): 6.");
        onlyOf(0, 3, Made.USUAL, "film", BAD, s -> x -> x.film(s, 0));
        onlyOf(0, 1, Made.USUAL, "film", NO_WHAT, high -> x -> x.film(0, high));
        refused(Made.CANT, "film of a missing one", CANT_BE, x -> x.film(3, 0));
        for (int s = 0; s < 4; s++) {
            for (int high = 0; high < 2; high++) {
                BetweenThisAndThat x = usual();
                due("film", x.film(s, high), 6);
                due("ints", sortOf(x, s), INTS);
                due("six", sizeOf(x, s), 6);
                due("within", x.judge(s), NONE);
                due("a + b", x.reckon(s, 0), high == 0 ? 37 : 63);
                due("a * b - c", x.reckon(s, 1), high == 0 ? 215 : 805);
                due("d - 2 * e", x.reckon(s, 2), high == 0 ? 49 : 77);
                due("f", x.laws(s) >> 2 & 1, high == 0 ? 1 : 0);
                x.unsay();
                due("the sheet stays, when the span is wider", x.reckon(s, 0), high == 0 ? 37 : 63);
            }
        }
    }

    private static void promises31To34() {
        says("Promise 31: what 0 .. 5 that QUANTITY, 6 whether it counts as met by THE LAW (1, 0). BAD");
        onlyOf(0, 6, Made.USUAL, "drawn", BAD, what -> x -> x.drawn(0, what));
        for (int what = 0; what < 7; what++) {
            int which = what;
            refused(Made.CANT, "drawn " + what, NONE, x -> x.drawn(99999, which));
        }
        for (int seed : new int[] {0, 50000, 99999}) {
            BetweenThisAndThat x = usual();
            x.force(1);
            due("a < b", x.drawn(seed, 6), 1);
            x.force(2);
            due("not f", x.drawn(seed, 6), x.drawn(seed, 5) == 0 ? 1 : 0);
        }
        says("Promise 32: In how many of so many (1 .. 40) seeds, SEED and each 1 more (they may pass 99999)");
        onlyOf(1, 40, Made.USUAL, "odds", NO, seeds -> x -> x.odds(0, seeds, 0));
        onlyOf(0, 1, Made.USUAL, "odds", NO, part -> x -> x.odds(0, 1, part));
        // the first lot modulo 7 is 2, 4, 6, 1, .. of seeds 0, 1, 2, 3, ..
        for (int first : new int[] {0, 3, 99960, 99990, 99999}) {
            for (int seeds : new int[] {1, 2, 39, 40}) {
                BetweenThisAndThat x = fresh();
                x.say(0, 0, 1, 7);
                textOf(x, "reckons 1;costs 1;meets a<4;");
                x.force(1);
                int met = 0;
                for (long seed = first; seed < first + seeds; seed++) {
                    met += (seed + 1) * 48271 % 2147483647 % 7 + 1 < 4 ? 1 : 0;
                }
                int common = met;
                for (int rest = seeds; rest != 0; ) {
                    int next = common % rest;
                    common = rest;
                    rest = next;
                }
                due("above of " + first + " " + seeds, x.odds(first, seeds, 0), met / common);
                due("below of " + first + " " + seeds, x.odds(first, seeds, 1), seeds / common);
            }
        }
        BetweenThisAndThat x = fresh();
        textOf(x, "reckons 1;costs 1;meets 0;");
        due("all of 40", x.odds(99999, 40, 0), 1);
        due("all of 40", x.odds(99999, 40, 1), 1);
        x.force(1);
        due("none of 40", x.odds(99999, 40, 0), 0);
        due("none of 40", x.odds(99999, 40, 1), 1);
        imageEdges();
    }

    private static void imageEdges() {
        says("Promise 33: AN IMAGE is kept: how many SAYINGS.");
        BetweenThisAndThat x = fresh();
        due("of none", x.image(), 0);
        due("of ten", fullUp().image(), 10);
        says("Promise 34: STATE: there is none.");
        refused(Made.NEW, "back", STATE, y -> y.back());
        says("SAYINGS are those again, LINKS that came since are none");
        x.say(0, 0, 5, 5);
        for (int k = 0; k < 8; k++) {
            x.link(0, 1, k, k);
        }
        due("back to none", x.back(), 0);
        due("no saying", x.told(0, 0), NO_SUCH);
        due("no link", x.linkTold(0, 0), NO_SUCH);
        due("all can be", x.can(), 1);
        x = fullUp();
        for (int s = 0; s < 10; s++) {
            x.unsay();
        }
        for (int s = 0; s < 10; s++) {
            x.say(59, 5, 999, 999);
        }
        x.set(0);
        x.force(0);
        x.sheet(0, INTS, 40);
        x.cell(0, 39, MOST);
        due("back to ten", x.back(), 10);
        unchanged(Made.FULL_UP, "back", x);
        says("AN IMAGE keeps SAYINGS, THE YEAR, how many LINKS there are, THE LAW");
        x = usual();
        due("back", x.back(), 4);
        int[] counts = {4, 2, 4, 3, 1, 0};
        for (int what = 0; what < 6; what++) {
            due("count(" + what + ")", x.count(what), counts[what]);
        }
        due("the tale in year 4", x.told(3, 5), 64);
        due("costs a - 5", x.inch(), 5);
        due("back again", x.back(), 4);
        x.unsay();
        due("an image anew", x.image(), 3);
        x.say(0, 0, 1, 1);
        due("back to it", x.back(), 3);
        says("texts, the tape, sheets are not of it");
        x = withTape(usual());
        textOf(x, "");
        x.sheet(0, INTS, 3);
        feedAll(x, "reckons");
        x.back();
        due("texts", x.count(3), 4);
        due("text 3", x.between(3, 0), 7);
        due("the tape", x.count(5), 7);
        due("the sheet", sizeOf(x, 0), 3);
    }

    private static void promises35To39() {
        says("Promise 35: A SHEET becomes a row of n of a sort, all 0, or missing (sort -1: n does not matter): 1.");
        onlyOf(0, 3, Made.USUAL, "sheet", BAD, s -> x -> x.sheet(s, INTS, 6));
        onlyOf(-1, 2, Made.USUAL, "sheet", BAD, sort -> x -> x.sheet(0, sort, 6));
        for (int sort = BYTES; sort <= INTS; sort++) {
            int each = sort;
            for (int n : new int[] {41, 42, MOST}) {
                refused(Made.USUAL, "sheet of " + n, BAD, x -> x.sheet(0, each, n));
            }
            for (int n : new int[] {-1, -2, LEAST}) {
                refused(Made.USUAL, "sheet of " + n, BELOW_0, x -> x.sheet(0, each, n));
            }
            for (int n : new int[] {0, 1, 6, 39, 40}) {
                BetweenThisAndThat x = usual();
                due("sheet of " + n, x.sheet(0, sort, n), 1);
                due("its sort", sortOf(x, 0), sort);
                due("its size", sizeOf(x, 0), n);
                due("all 0", n == 6 ? x.laws(0) : 5, 5);
                due("the last", x.cell(0, n - 1, 7), n == 0 ? OUTSIDE : 1);
                due("behind it", x.cell(0, n, 7), OUTSIDE);
            }
        }
        for (int n : new int[] {LEAST, -1, 0, 40, 41, MOST}) {
            BetweenThisAndThat x = usual();
            due("missing, n " + n, x.sheet(0, MISSING, n), 1);
            due("is missing", x.cell(0, 0, 0), NOTHING);
            due("missing again", x.sheet(0, MISSING, n), 1);
            due("a row anew", x.sheet(0, BYTES, 6), 1);
            due("all 0", x.laws(0), 5);
        }
        zeroAgain();
        cellEdges();
        copyEdges();
        sayingsByEdges();
        takenEdges();
    }

    private static void zeroAgain() {
        says("all 0");
        BetweenThisAndThat x = fresh();
        for (int q = 0; q < 6; q++) {
            textOf(x, "reckons " + (char) ('a' + q) + REST);
            fill(x, 0, INTS, 9, 9, 9, 9, 9, 9, 9);
            x.sheet(0, SHORTS, 6);
            due("cell " + q, x.reckon(0, Math.min(5, q + 1)), 0);
        }
    }

    private static void cellEdges() {
        says("Promise 36: Number i of a SHEET becomes v (of bytes, shorts its lowest 8, 16 bits): 1.");
        onlyOf(0, 3, Made.USUAL, "cell", BAD, s -> x -> x.cell(s, 0, 1));
        onlyOf(0, 5, Made.USUAL, "cell of six", OUTSIDE, i -> x -> x.cell(0, i, 1));
        onlyOf(0, 39, Made.FULL_UP, "cell of forty", OUTSIDE, i -> x -> x.cell(0, i, 1));
        refused(Made.USUAL, "cell of a missing one", NOTHING, x -> x.cell(3, 0, 1));
        // v, what bytes, what shorts keep of it
        int[][] kept = {{0, 0, 0}, {127, 127, 127}, {128, -128, 128}, {255, -1, 255}, {256, 0, 256}, {-1, -1, -1},
            {-128, -128, -128}, {-129, 127, -129}, {32767, -1, 32767}, {32768, 0, -32768}, {65535, -1, -1},
            {65536, 0, 0}, {-32768, 0, -32768}, {-32769, -1, 32767}, {MOST, -1, -1}, {LEAST, 0, 0}};
        for (int[] each : kept) {
            for (int sort = BYTES; sort <= INTS; sort++) {
                BetweenThisAndThat x = fresh();
                x.sheet(2, sort, 6);
                due("cell", x.cell(2, 0, each[0]), 1);
                due("sort " + sort + " of " + each[0], x.reckon(2, 0), sort == INTS ? each[0] : each[1 + sort]);
            }
        }
        BetweenThisAndThat x = usual();
        x.cell(0, 0, 1);
        due("the others stay", x.reckon(0, 0), 31);
        x.cell(0, 5, 0);
        due("the last", x.laws(0), 7);
    }

    private static void copyEdges() {
        says("Promise 37: n numbers of a SHEET, from i on, come to another one's (or its own) place j: n.");
        onlyOf(0, 3, Made.USUAL, "copy of", BAD, s -> x -> x.copy(s, 0, 0, 0, 0));
        onlyOf(0, 3, Made.USUAL, "copy to", BAD, s -> x -> x.copy(0, 0, s, 0, 0));
        refused(Made.USUAL, "copy of a missing one", NOTHING, x -> x.copy(3, 0, 0, 0, 0));
        refused(Made.USUAL, "copy to a missing one", NOTHING, x -> x.copy(0, 0, 3, 0, 0));
        refused(Made.USUAL, "copy of a missing one to itself", NOTHING, x -> x.copy(3, 0, 3, 0, 0));
        for (int s = 0; s < 3; s++) {
            int from = s;
            refused(Made.USUAL, "unlike sorts", OTHER, x -> x.copy(from, 0, (from + 1) % 3, 0, 1));
            refused(Made.USUAL, "unlike sorts", OTHER, x -> x.copy(from, 0, (from + 2) % 3, 0, 0));
        }
        says("-12 (n below 0, too)");
        // sheet 0 has six: i, j, n, and what is due
        int[][] runs = {{0, 0, 6, 6}, {0, 0, 7, OUTSIDE}, {1, 0, 5, 5}, {1, 0, 6, OUTSIDE}, {0, 1, 5, 5},
            {0, 1, 6, OUTSIDE}, {6, 6, 0, 0}, {7, 6, 0, OUTSIDE}, {6, 7, 0, OUTSIDE}, {5, 5, 1, 1},
            {6, 5, 1, OUTSIDE}, {5, 6, 1, OUTSIDE}, {0, 0, 0, 0}, {0, 0, -1, OUTSIDE}, {-1, 0, 0, OUTSIDE},
            {0, -1, 0, OUTSIDE}, {-1, 0, 1, OUTSIDE}, {0, -1, 1, OUTSIDE}, {0, 0, LEAST, OUTSIDE},
            {0, 0, MOST, OUTSIDE}, {1, 1, MOST, OUTSIDE}, {MOST, 0, 1, OUTSIDE}, {0, MOST, 1, OUTSIDE},
            {MOST, MOST, MOST, OUTSIDE}, {LEAST, LEAST, LEAST, OUTSIDE}, {MOST, 0, LEAST, OUTSIDE}};
        for (int[] each : runs) {
            if (each[3] == OUTSIDE) {
                refused(Made.USUAL, "copy " + each[0] + " " + each[1] + " " + each[2], OUTSIDE,
                        x -> x.copy(0, each[0], 0, each[1], each[2]));
            } else {
                due("copy " + each[0] + " " + each[1], usual().copy(0, each[0], 0, each[1], each[2]), each[3]);
            }
        }
        BetweenThisAndThat x = fresh();
        x.sheet(0, INTS, 40);
        x.sheet(1, INTS, 0);
        x.sheet(2, INTS, 1);
        due("all forty", x.copy(0, 0, 0, 0, 40), 40);
        due("forty-one", x.copy(0, 0, 0, 0, 41), OUTSIDE);
        due("none to none", x.copy(1, 0, 1, 0, 0), 0);
        due("one to none", x.copy(0, 0, 1, 0, 1), OUTSIDE);
        due("one of none", x.copy(1, 0, 0, 0, 1), OUTSIDE);
        due("the last to one", x.copy(0, 39, 2, 0, 1), 1);
        due("two to one", x.copy(0, 0, 2, 0, 2), OUTSIDE);
        says("as they were");
        for (int i = 0; i < 6; i++) {
            for (int j = 0; j < 6; j++) {
                int n = 6 - Math.max(i, j);
                ownCopy(i, j, n);
            }
        }
    }

    private static void ownCopy(int i, int j, int n) {
        int[] row = {11, 12, 13, 14, 15, 16};
        int[] want = row.clone();
        for (int k = 0; k < n; k++) {
            want[j + k] = row[i + k];
        }
        BetweenThisAndThat x = fresh();
        fill(x, 0, SHORTS, row);
        fill(x, 2, SHORTS, row);
        x.sheet(3, SHORTS, 6);
        due("copy", x.copy(0, i, 0, j, n), n);
        due("copy to another one", x.copy(0, i, 2, i, n), n);
        for (int k = 0; k < 6; k++) {
            x.copy(0, k, 3, 0, 1);
            due("place " + k + " behind copy " + i + " " + j, x.reckon(3, 0), want[k]);
            x.copy(2, k, 3, 0, 1);
            due("place " + k + " of the other", x.reckon(3, 0), k < i || k >= i + n ? row[k] : want[k]);
        }
    }

    private static void sayingsByEdges() {
        says("Promise 38: SAYINGS by a SHEET of a sort, n of them (0 .. 10)");
        onlyOf(0, 3, Made.USUAL, "sayingsBy", BAD, s -> x -> x.sayingsBy(s, 0, 0, 0));
        onlyOf(0, 2, Made.USUAL, "sayingsBy", BAD, sort -> x -> x.sayingsBy(0, sort, 0, 0));
        onlyOf(0, 10, Made.USUAL, "sayingsBy", BAD, n -> x -> x.sayingsBy(0, 0, 0, n));
        refused(Made.USUAL, "by a missing one", NOTHING, x -> x.sayingsBy(3, 0, 0, 0));
        for (int s = 0; s < 3; s++) {
            int of = s;
            refused(Made.USUAL, "by another sort", OTHER, x -> x.sayingsBy(of, (of + 1) % 3, 0, 0));
            refused(Made.USUAL, "by another sort", OTHER, x -> x.sayingsBy(of, (of + 2) % 3, 0, 1));
            due("by none of it", usual().sayingsBy(s, s, 0, 0), 0);
        }
        says("how many came (others are left out)");
        BetweenThisAndThat x = fresh();
        // one that fits, and each way not to
        fill(x, 0, SHORTS, 59, 5, 0, 999, 60, 5, 0, 999, -1, 5, 0, 999, 0, 6, 0, 999, 0, -1, 0, 999,
                0, 0, -1, 999, 0, 0, 0, 1000, 0, 0, 6, 5, 0, 0, 5, 5, 59, 5, 999, 999);
        due("ten of forty numbers", x.sayingsBy(0, SHORTS, 0, 10), 3);
        due("the first", x.told(0, 3), 999);
        due("the second", x.told(1, 2), 5);
        due("the third", x.told(2, 2), 999);
        due("its more", x.told(2, 4), 9);
        x = fresh();
        x.sheet(0, BYTES, 40);
        due("ten", x.sayingsBy(0, BYTES, 0, 10), 10);
        due("no room", x.sayingsBy(0, BYTES, 0, 10), 0);
        x.unsay();
        due("room for one", x.sayingsBy(0, BYTES, 0, 10), 1);
        x = fullUp();
        due("no room, and outside", x.sayingsBy(1, SHORTS, 0, 2), OUTSIDE);
        unchanged(Made.FULL_UP, "no room, and outside", x);
        says("-12: what stood ahead came");
        onlyOf(0, 36, Made.FULL_UP, "sayingsBy", OUTSIDE, at -> y -> y.sayingsBy(0, INTS, at, 1));
        onlyOf(0, 2, Made.USUAL, "sayingsBy", OUTSIDE, at -> y -> y.sayingsBy(0, BYTES, at, 1));
        for (int at = 0; at <= 9; at++) {
            for (int n = 0; n <= 10; n++) {
                x = fresh();
                x.sheet(0, INTS, 9);
                int room = at > 9 ? 0 : (9 - at) / 4;
                due(n + " from " + at, x.sayingsBy(0, INTS, at, n), n <= room ? n : OUTSIDE);
                due("came of " + n + " from " + at, x.count(0), Math.min(n, room));
            }
        }
        x = fresh();
        x.sheet(0, INTS, 40);
        due("ten from 1", x.sayingsBy(0, INTS, 1, 10), OUTSIDE);
        due("nine came", x.count(0), 9);
    }

    private static void takenEdges() {
        says("Promise 39: What lies at place i: 0 .. 9 SAYINGS, 10 .. 17 LINKS");
        onlyOf(0, 6, Made.USUAL, "taken", BAD, kind -> x -> x.taken(0, kind));
        onlyOf(0, 17, Made.USUAL, "taken", OUTSIDE, i -> x -> x.taken(i, 0));
        for (int i : new int[] {5, 9, 13, 17}) {
            refused(Made.USUAL, "taken " + i + " for a saying", NOTHING, x -> x.taken(i, 0));
            refused(Made.USUAL, "taken " + i + " for a link", NOTHING, x -> x.taken(i, 6));
        }
        for (int i = 0; i < 18; i++) {
            int place = i;
            refused(Made.NEW, "taken " + i, NOTHING, x -> x.taken(place, 0));
        }
        for (int i : new int[] {0, 4, 9}) {
            due("saying " + i, fullUp().taken(i, 0), i);
            refused(Made.FULL_UP, "taken " + i + " for a link", OTHER, x -> x.taken(i, 6));
        }
        for (int i : new int[] {10, 14, 17}) {
            due("link " + (i - 10), fullUp().taken(i, 6), 1000 + 2 * (i - 10));
            for (int kind = 0; kind < 6; kind++) {
                int each = kind;
                refused(Made.FULL_UP, "taken " + i + " for a saying", OTHER, x -> x.taken(i, each));
            }
        }
        says("taken for 0 .. 5 a SAYING of that KIND (also of one that is one): its number");
        String[] is = {"0", "01", "02", "013", "024", "05"};
        for (int kind = 0; kind < 6; kind++) {
            for (int wanted = 0; wanted < 6; wanted++) {
                BetweenThisAndThat x = fresh();
                x.say(0, 0, 0, 999);
                x.say(10 * kind + 9, 0, 0, 999);
                due(kind + " taken for " + wanted, x.taken(1, wanted),
                        is[kind].indexOf('0' + wanted) >= 0 ? 1 : OTHER);
            }
        }
        says("6 a LINK: HIGH less LOW");
        BetweenThisAndThat x = fresh();
        x.link(0, 1, -999, 999);
        x.link(0, 1, 999, 999);
        x.link(0, 1, -999, -998);
        due("the widest", x.taken(10, 6), 1998);
        due("the narrowest", x.taken(11, 6), 0);
        due("one", x.taken(12, 6), 1);
    }
}
