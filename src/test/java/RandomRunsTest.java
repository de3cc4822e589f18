import java.util.ArrayList;
import java.util.List;
import java.util.Random;
import java.util.TreeSet;

/**
 * Runs of calls by lot (always the same ones), each answer held against a reference that is
 * written another way than the program: bounds pushed along links until nothing moves, texts
 * told valid by a list of what may come next and reckoned by splitting tokens, rows looked
 * through one by one.
 */
public final class RandomRunsTest {
    private static final int RUNS = 3000, CALLS = 512, TEXTS = 40000;
    private static final long NO = BetweenThisAndThat.NO;

    public static void main(String[] args) {
        int only = args.length > 0 ? Integer.parseInt(args[0]) : -1;
        int wrong = 0;
        long[] asked = new long[NAMES.length];
        long[] answered = new long[NAMES.length];
        for (int run = 0; run < RUNS && wrong < 20; run++) {
            if (only < 0 || run == only) {
                wrong += oneRun(run, asked, answered);
            }
        }
        int[] outcomes = new int[2];
        for (int i = 0; i < TEXTS && only < 0 && wrong < 20; i++) {
            wrong += oneText(i, outcomes);
        }
        System.out.println("texts: " + outcomes[0] + ", faults: " + outcomes[1]);
        System.out.println("calls asked, and how many of them were not refused:");
        StringBuilder table = new StringBuilder();
        for (int i = 0; i < NAMES.length; i++) {
            table.append(NAMES[i]).append(' ').append(asked[i]).append('/').append(answered[i]).append("  ");
        }
        System.out.println(table);
        System.out.println(wrong + " answers not as due");
        if (wrong != 0) {
            System.exit(1);
        }
    }

    private static final String[] NAMES = {
        "count", "set", "feed", "text", "force", "say", "unsay", "told", "link", "linkTold",
        "can", "span", "apart", "clashes", "wrong", "blame", "between", "inch", "buy", "worth",
        "exact", "wager", "less", "lies", "breaks", "judge", "reckon", "laws", "film", "drawn",
        "odds", "image", "back", "sheet", "cell", "copy", "sayingsBy", "taken"};

    /** A text of a new object, whole or with a fault, reckoned by a sheet. */
    private static int oneText(int number, int[] outcomes) {
        Random lot = new Random(1000000 + number);
        BetweenThisAndThat x = new BetweenThisAndThat();
        Reference y = new Reference();
        new Caller(lot, 0).feed(x, y);
        String bytes = y.tape.toString();
        int got = x.text();
        int want = y.text();
        outcomes[want == 1 ? 0 : 1]++;
        if (got != want) {
            System.out.println("text " + number + " '" + bytes + "' answered " + got + ", due is " + want);
            return 1;
        }
        x.sheet(0, 2, 6);
        y.sheet(0, 2, 6);
        for (int q = 0; q < 6; q++) {
            int v = lot.nextBoolean() ? lot.nextInt(5) - 1 : lot.nextInt();
            x.cell(0, q, v);
            y.cell(0, q, v);
        }
        long told = x.reckon(0, 1) + 31L * x.laws(0);
        long due = y.reckon(0, 1) + 31L * y.laws(0);
        if (told != due) {
            System.out.println("text " + number + " '" + bytes + "' tells otherwise by a sheet");
        }
        return told != due ? 1 : 0;
    }

    private static int oneRun(int run, long[] asked, long[] answered) {
        Random lot = new Random(run);
        BetweenThisAndThat x = new BetweenThisAndThat();
        Reference y = new Reference();
        Caller caller = new Caller(lot, run % 4);
        int wrong = 0;
        for (int i = 0; i < CALLS; i++) {
            int call = caller.pick(i);
            int[] a = caller.arguments(call, y);
            if (call == 2) {
                i += caller.feed(x, y);
                asked[2]++;
                if (lot.nextInt(3) == 0) {
                    continue;
                }
                call = 3;
            }
            long got = byProgram(x, call, a);
            long want = byReference(y, call, a);
            asked[call]++;
            answered[call] += got >= 0 ? 1 : 0;
            if (got != want) {
                wrong++;
                System.out.println("run " + run + " call " + i + " " + NAMES[call]
                        + java.util.Arrays.toString(a) + " answered " + got + ", due is " + want);
            }
        }
        return wrong;
    }

    private static long byProgram(BetweenThisAndThat x, int call, int[] a) {
        switch (call) {
            case 0: return x.count(a[0]);
            case 1: return x.set(a[0]);
            case 3: return x.text();
            case 4: return x.force(a[0]);
            case 5: return x.say(a[0], a[1], a[2], a[3]);
            case 6: return x.unsay();
            case 7: return x.told(a[0], a[1]);
            case 8: return x.link(a[0], a[1], a[2], a[3]);
            case 9: return x.linkTold(a[0], a[1]);
            case 10: return x.can();
            case 11: return x.span(a[0], a[1]);
            case 12: return x.apart(a[0], a[1], a[2]);
            case 13: return x.clashes(a[0]);
            case 14: return x.wrong(a[0]);
            case 15: return x.blame();
            case 16: return x.between(a[0], a[1]);
            case 17: return x.inch();
            case 18: return x.buy(a[0], a[1], a[2]);
            case 19: return x.worth(a[0], a[1]);
            case 20: return x.exact(a[0], a[1], a[2]);
            case 21: return x.wager(a[0], a[1], a[2]);
            case 22: return x.less(a[0], a[1], a[2]);
            case 23: return x.lies(a[0]);
            case 24: return x.breaks(a[0]);
            case 25: return x.judge(a[0]);
            case 26: return x.reckon(a[0], a[1]);
            case 27: return x.laws(a[0]);
            case 28: return x.film(a[0], a[1]);
            case 29: return x.drawn(a[0], a[1]);
            case 30: return x.odds(a[0], a[1], a[2]);
            case 31: return x.image();
            case 32: return x.back();
            case 33: return x.sheet(a[0], a[1], a[2]);
            case 34: return x.cell(a[0], a[1], a[2]);
            case 35: return x.copy(a[0], a[1], a[2], a[3], a[4]);
            case 36: return x.sayingsBy(a[0], a[1], a[2], a[3]);
            default: return x.taken(a[0], a[1]);
        }
    }

    private static long byReference(Reference y, int call, int[] a) {
        switch (call) {
            case 0: return y.count(a[0]);
            case 1: return y.set(a[0]);
            case 3: return y.text();
            case 4: return y.force(a[0]);
            case 5: return y.say(a[0], a[1], a[2], a[3]);
            case 6: return y.unsay();
            case 7: return y.told(a[0], a[1]);
            case 8: return y.link(a[0], a[1], a[2], a[3]);
            case 9: return y.linkTold(a[0], a[1]);
            case 10: return y.box(0, -1) == null ? 0 : 1;
            case 11: return y.span(a[0], a[1]);
            case 12: return y.apart(a[0], a[1], a[2]);
            case 13: return y.clashes(a[0]);
            case 14: return y.wrong(a[0]);
            case 15: return y.blame();
            case 16: return y.between(a[0], a[1]);
            case 17: return y.inch();
            case 18: return y.buy(a[0], a[1], a[2]);
            case 19: return y.worth(a[0], a[1]);
            case 20: return y.exact(a[0], a[1], a[2]);
            case 21: return y.wager(a[0], a[1], a[2]);
            case 22: return y.less(a[0], a[1], a[2]);
            case 23: return y.lies(a[0]);
            case 24: return y.breaks(a[0]);
            case 25: return y.judge(a[0]);
            case 26: return y.reckon(a[0], a[1]);
            case 27: return y.laws(a[0]);
            case 28: return y.film(a[0], a[1]);
            case 29: return y.drawn(a[0], a[1]);
            case 30: return y.odds(a[0], a[1], a[2]);
            case 31: return y.image();
            case 32: return y.back();
            case 33: return y.sheet(a[0], a[1], a[2]);
            case 34: return y.cell(a[0], a[1], a[2]);
            case 35: return y.copy(a[0], a[1], a[2], a[3], a[4]);
            case 36: return y.sayingsBy(a[0], a[1], a[2], a[3]);
            default: return y.taken(a[0], a[1]);
        }
    }

    /** Which calls come, and with what. */
    private static final class Caller {
        private final Random lot;
        private final int mood;
        /** Sayings and links are mostly such that one row stays possible. */
        private final int[] hidden = new int[6];

        Caller(Random lot, int mood) {
            this.lot = lot;
            this.mood = mood;
            for (int q = 0; q < 6; q++) {
                hidden[q] = lot.nextInt(3) == 0 ? lot.nextInt(1000) : 100 + lot.nextInt(30);
            }
        }

        int pick(int i) {
            if (mood == 1 && lot.nextInt(4) == 0) {
                return lot.nextBoolean() ? 5 : 8;
            }
            if (mood == 2 && lot.nextInt(3) == 0) {
                return 23 + lot.nextInt(5) + (lot.nextInt(3) == 0 ? 10 : 0);
            }
            if (lot.nextInt(8) == 0) {
                return 2;
            }
            if (lot.nextInt(12) == 0) {
                return 5;
            }
            return lot.nextInt(NAMES.length);
        }

        private int odd(int low, int high) {
            int n = lot.nextInt(60);
            if (n == 0) {
                return low - 1;
            }
            if (n == 1) {
                return high + 1;
            }
            if (n == 2) {
                return lot.nextBoolean() ? Integer.MIN_VALUE : Integer.MAX_VALUE;
            }
            return low + lot.nextInt(high - low + 1);
        }

        private int number(int q) {
            int around = lot.nextInt(5) == 0 ? lot.nextInt(1000) : hidden[q] + lot.nextInt(21) - 10;
            return lot.nextInt(80) == 0 ? odd(0, 999) : Math.max(0, Math.min(999, around));
        }

        int[] arguments(int call, Reference y) {
            int textNo = odd(0, y.texts.size() - 1);
            int sheetNo = odd(0, 3);
            switch (call) {
                case 0: return new int[] {odd(0, 5)};
                case 1: return new int[] {lot.nextBoolean() ? odd(0, 99) : lot.nextInt(12)};
                case 4: return new int[] {textNo};
                case 5: return saying();
                case 7: return new int[] {odd(0, Math.max(0, y.sayings.size() - 1)), odd(0, 6)};
                case 8: return linking();
                case 9: return new int[] {odd(0, Math.max(0, y.links.size() - 1)), odd(0, 3)};
                case 11: return new int[] {odd(0, 5), odd(0, 4)};
                case 12: return new int[] {odd(0, 5), odd(0, 5), odd(0, 1)};
                case 13: case 14: return new int[] {odd(0, 1)};
                case 16: return new int[] {textNo, odd(0, 2)};
                case 18: return new int[] {textNo, lot.nextBoolean() ? lot.nextInt(8) : odd(0, 999), odd(0, 1)};
                case 19: return new int[] {textNo, odd(0, Math.max(0, y.sayings.size() - 1))};
                case 20: int q = odd(0, 5);
                    return new int[] {textNo, q, number(q < 0 || q > 5 ? 0 : q)};
                case 21: int r = odd(0, 5);
                    return new int[] {r, number(r < 0 || r > 5 ? 0 : r), odd(0, 1)};
                case 22: return new int[] {odd(0, 5), odd(0, 5), odd(0, 1)};
                case 23: case 24: case 25: case 27: return new int[] {sheetNo};
                case 26: return new int[] {sheetNo, textNo};
                case 28: return new int[] {sheetNo, odd(0, 1)};
                case 29: return new int[] {odd(0, 99999), odd(0, 6)};
                case 30: return new int[] {lot.nextInt(9) == 0 ? 99999 : odd(0, 99999), odd(1, 40), odd(0, 1)};
                case 33: return new int[] {sheetNo, lot.nextInt(9) == 0 ? -1 : odd(0, 2),
                    lot.nextInt(3) != 0 ? 6 : odd(0, 40)};
                case 34: return cellOf(sheetNo, y);
                case 35: return new int[] {sheetNo, odd(0, 7), odd(0, 3), odd(0, 7), odd(0, 8)};
                case 36: return sayingsOf(sheetNo, y);
                case 37: return new int[] {odd(0, 17), odd(0, 6)};
                default: return new int[0];
            }
        }

        private int[] saying() {
            int of = odd(0, 5);
            int around = of < 0 || of > 5 ? 0 : of;
            int low = number(around);
            int high = number(around);
            if (lot.nextInt(20) != 0 && low > high) {
                int swap = low;
                low = high;
                high = swap;
            }
            return new int[] {odd(0, 59), of, low, high};
        }

        private int[] linking() {
            int a = odd(0, 5);
            int b = odd(0, 5);
            if (a < 0 || a > 5 || b < 0 || b > 5 || lot.nextInt(6) == 0) {
                return new int[] {a, b, odd(-999, 999), odd(-999, 999)};
            }
            int ahead = hidden[b] - hidden[a];
            return new int[] {a, b, Math.max(-999, ahead - lot.nextInt(9)), Math.min(999, ahead + lot.nextInt(9))};
        }

        private int[] cellOf(int s, Reference y) {
            int size = s < 0 || s > 3 || y.sheets[s] == null ? 6 : Math.max(1, y.sheets[s].length);
            int i = odd(0, size - 1);
            int v = i >= 0 && i < 6 && lot.nextInt(4) != 0 ? number(i) : lot.nextInt();
            return new int[] {s, i, v};
        }

        private int[] sayingsOf(int s, Reference y) {
            int sort = s < 0 || s > 3 || lot.nextInt(9) == 0 ? odd(0, 2) : y.sorts[s];
            return new int[] {s, sort, odd(0, 12), lot.nextInt(9) == 0 ? odd(0, 10) : lot.nextInt(3)};
        }

        /** Feeds a whole text, mostly a valid one; how many calls it took. */
        int feed(BetweenThisAndThat x, Reference y) {
            String bytes = "reckons " + any(3) + ";costs " + any(1) + ";meets " + any(2) + ";";
            if (lot.nextInt(3) == 0) {
                bytes = spoiled(bytes);
            }
            int calls = 0;
            for (int at = 0; at < bytes.length(); ) {
                int n = Math.min(1 + lot.nextInt(5), bytes.length() - at);
                int[] five = new int[5];
                for (int i = 0; i < 5; i++) {
                    five[i] = i < n ? bytes.charAt(at + i) : lot.nextInt(256);
                }
                int got = x.feed(n, five[0], five[1], five[2], five[3], five[4]);
                int want = y.feed(n, five);
                if (got != want) {
                    System.out.println("feed answered " + got + ", due is " + want);
                    System.exit(1);
                }
                calls++;
                at += n;
            }
            return calls;
        }

        private String spoiled(String bytes) {
            String[] pieces = {"(", ")", ";", "-", "not ", " or ", " and ", "<", "=", "a", "7", "12345",
                "costs", "reckons", "z", "\t", "((", "*", "+", " ", "\n", "\u00e9", "--", "not not ", "{"};
            int from = lot.nextInt(bytes.length());
            int to = Math.min(bytes.length(), from + lot.nextInt(3));
            return bytes.substring(0, from) + pieces[lot.nextInt(pieces.length)] + bytes.substring(to);
        }

        private String blank() {
            return lot.nextInt(6) == 0 ? lot.nextBoolean() ? " " : "\n" : "";
        }

        private String any(int deep) {
            StringBuilder e = new StringBuilder(not(deep));
            for (int i = lot.nextInt(8); i > 5; i--) {
                e.append(lot.nextBoolean() ? " or " : " and ").append(not(deep - 1));
            }
            return e.toString();
        }

        private String not(int deep) {
            if (lot.nextInt(8) == 0) {
                return "not " + not(deep - 1);
            }
            return lot.nextInt(4) == 0 ? sum(deep) + (lot.nextBoolean() ? "<" : "=") + sum(deep - 1) : sum(deep);
        }

        private String sum(int deep) {
            StringBuilder e = new StringBuilder(one(deep));
            for (int i = lot.nextInt(5); i > 2; i--) {
                e.append(blank()).append("+-*".charAt(lot.nextInt(3))).append(blank()).append(one(deep - 1));
            }
            return e.toString();
        }

        private String one(int deep) {
            int n = lot.nextInt(10);
            if (deep > 0 && n < 2) {
                return "(" + any(deep - 1) + ")";
            }
            if (n == 2) {
                return "-" + one(deep);
            }
            return n < 5 ? "" + lot.nextInt(lot.nextBoolean() ? 20 : 10000) : "" + (char) ('a' + lot.nextInt(6));
        }
    }

    /** The document again, in its plainest form, however slow. */
    private static final class Reference {
        List<int[]> sayings = new ArrayList<>();
        List<int[]> links = new ArrayList<>();
        List<List<List<String>>> texts = new ArrayList<>();
        int year = 0;
        int law = 0;
        StringBuilder tape = new StringBuilder();
        int[][] sheets = new int[4][];
        int[] sorts = {-1, -1, -1, -1};
        List<int[]> keptSayings = null;
        int keptYear = 0;
        int keptLinks = 0;
        int keptLaw = 0;

        Reference() {
            tape.append("reckons a + b ; costs 1 ; meets 1 ;");
            text();
        }

        static boolean no(int v, int low, int high) {
            return v < low || v > high;
        }

        int count(int what) {
            if (no(what, 0, 5)) {
                return -2;
            }
            return new int[] {sayings.size(), links.size(), year, texts.size(), law, tape.length()}[what];
        }

        int set(int v) {
            if (no(v, 0, 99)) {
                return -2;
            }
            int was = year;
            year = v;
            return was;
        }

        int feed(int n, int[] five) {
            if (tape.length() + n > 160) {
                return -4;
            }
            for (int i = 0; i < n; i++) {
                tape.append((char) five[i]);
            }
            return tape.length();
        }

        int text() {
            if (texts.size() == 6) {
                return -4;
            }
            String bytes = tape.toString();
            tape.setLength(0);
            Grammar grammar = new Grammar(bytes);
            int fault = grammar.fault();
            if (fault >= 0) {
                return -100 - fault;
            }
            texts.add(grammar.parts);
            return texts.size() - 1;
        }

        int force(int t) {
            if (no(t, 0, texts.size() - 1)) {
                return -2;
            }
            int was = law;
            law = t;
            return was;
        }

        int say(int kindMore, int of, int low, int high) {
            if (no(kindMore, 0, 59) || no(of, 0, 5) || no(low, 0, 999) || no(high, low, 999)) {
                return -2;
            }
            if (sayings.size() == 10) {
                return -4;
            }
            sayings.add(new int[] {kindMore / 10, of, low, high, kindMore % 10});
            return sayings.size() - 1;
        }

        int unsay() {
            if (sayings.isEmpty()) {
                return -3;
            }
            sayings.remove(sayings.size() - 1);
            return sayings.size();
        }

        static int bound(int v) {
            return Math.max(0, Math.min(999, v));
        }

        int from(int[] s, int kind) {
            int middle = (s[2] + s[3]) / 2;
            switch (kind) {
                case 0: return s[2];
                case 1: return bound(from(s, 0) - s[4]);
                case 2: return Math.min(from(s, 0) + s[4], middle);
                case 3: return bound(from(s, 1) - year);
                case 4: return year >= s[4] ? middle : from(s, 2);
                default: return from(s, 0);
            }
        }

        int upTo(int[] s, int kind) {
            int middle = (s[2] + s[3]) / 2;
            switch (kind) {
                case 0: return s[3];
                case 1: return bound(upTo(s, 0) + s[4]);
                case 2: return Math.max(upTo(s, 0) - s[4], middle);
                case 3: return bound(upTo(s, 1) + year);
                case 4: return year >= s[4] ? middle : upTo(s, 2);
                default: return 999;
            }
        }

        int told(int s, int what) {
            if (no(s, 0, sayings.size() - 1)) {
                return -5;
            }
            if (no(what, 0, 6)) {
                return -7;
            }
            int[] one = sayings.get(s);
            return what == 5 ? from(one, one[0]) : what == 6 ? upTo(one, one[0]) : one[what];
        }

        int link(int a, int b, int low, int high) {
            if (no(a, 0, 5) || no(b, 0, 5) || a == b || no(low, -999, 999) || no(high, low, 999)) {
                return -2;
            }
            if (links.size() == 8) {
                return -4;
            }
            links.add(new int[] {a, b, low, high});
            return links.size() - 1;
        }

        int linkTold(int k, int what) {
            return no(k, 0, links.size() - 1) ? -5 : no(what, 0, 3) ? -7 : links.get(k)[what];
        }

        /** What sayings leave: row 0 begins, row 1 ends. */
        int[][] left(int without) {
            int[][] box = {{0, 0, 0, 0, 0, 0}, {999, 999, 999, 999, 999, 999}};
            for (int s = 0; s < sayings.size(); s++) {
                int[] one = sayings.get(s);
                if ((without & 1 << s) == 0) {
                    box[0][one[1]] = Math.max(box[0][one[1]], from(one, one[0]));
                    box[1][one[1]] = Math.min(box[1][one[1]], upTo(one, one[0]));
                }
            }
            return box;
        }

        /** Pushes bounds along links until nothing moves; null if nothing is left. */
        int[][] pushed(int[][] box, int withoutLink) {
            boolean moved = true;
            while (moved) {
                moved = false;
                for (int q = 0; q < 6; q++) {
                    if (box[0][q] > box[1][q]) {
                        return null;
                    }
                }
                for (int k = 0; k < links.size(); k++) {
                    int[] one = links.get(k);
                    if (k != withoutLink) {
                        moved |= push(box, 0, one[1], box[0][one[0]] + one[2]);
                        moved |= push(box, 1, one[1], box[1][one[0]] + one[3]);
                        moved |= push(box, 0, one[0], box[0][one[1]] - one[3]);
                        moved |= push(box, 1, one[0], box[1][one[1]] - one[2]);
                    }
                }
            }
            return box;
        }

        private static boolean push(int[][] box, int side, int q, int bound) {
            if (side == 0 ? bound <= box[0][q] : bound >= box[1][q]) {
                return false;
            }
            box[side][q] = bound;
            return true;
        }

        int[][] box(int without, int withoutLink) {
            return pushed(left(without), withoutLink);
        }

        int span(int q, int what) {
            if (no(q, 0, 5)) {
                return -5;
            }
            if (no(what, 0, 4)) {
                return -7;
            }
            if (what > 2) {
                return left(0)[what - 3][q];
            }
            int[][] box = box(0, -1);
            return box == null ? -1 : what < 2 ? box[what][q] : box[1][q] - box[0][q];
        }

        int apart(int a, int b, int what) {
            int[][] box = box(0, -1);
            if (no(a, 0, 5) || no(b, 0, 5) || no(what, 0, 1) || box == null) {
                return -100000;
            }
            int best = 0;
            boolean any = false;
            for (int v = box[0][a]; v <= box[1][a]; v++) {
                int[][] so = {box[0].clone(), box[1].clone()};
                so[0][a] = v;
                so[1][a] = v;
                so = pushed(so, -1);
                if (so != null) {
                    int ahead = so[what][b] - v;
                    best = !any ? ahead : what == 0 ? Math.min(best, ahead) : Math.max(best, ahead);
                    any = true;
                }
            }
            return best;
        }

        int clashes(int what) {
            if (no(what, 0, 1)) {
                return -2;
            }
            TreeSet<Integer> pairs = new TreeSet<>();
            for (int s = 0; s < sayings.size(); s++) {
                for (int r = 0; r < s; r++) {
                    int[] x = sayings.get(r);
                    int[] y = sayings.get(s);
                    boolean common = false;
                    for (int v = 0; v < 1000; v++) {
                        common |= v >= from(x, x[0]) && v <= upTo(x, x[0]) && v >= from(y, y[0]) && v <= upTo(y, y[0]);
                    }
                    if (x[1] == y[1] && !common) {
                        pairs.add(10 * r + s);
                    }
                }
            }
            return what == 0 ? pairs.size() : pairs.isEmpty() ? -1 : pairs.first();
        }

        int wrong(int what) {
            if (no(what, 0, 1)) {
                return -2;
            }
            for (int size = 0; size <= sayings.size(); size++) {
                for (int without = 0; without < 1 << sayings.size(); without++) {
                    if (Integer.bitCount(without) == size && box(without, -1) != null) {
                        return what == 0 ? size : without;
                    }
                }
            }
            return -1;
        }

        int blame() {
            int blamed = 0;
            if (box(0, -1) == null) {
                for (int k = 0; k < links.size(); k++) {
                    blamed += box(0, k) != null ? 1 << k : 0;
                }
            }
            return blamed;
        }

        long[] reckoning(int t, int[][] box) {
            long least = Long.MAX_VALUE;
            long most = Long.MIN_VALUE;
            for (int way = 0; way < 64; way++) {
                int[] row = new int[6];
                for (int q = 0; q < 6; q++) {
                    row[q] = box[way >> q & 1][q];
                }
                long told = Grammar.value(texts.get(t).get(0), row);
                least = Math.min(least, told);
                most = Math.max(most, told);
            }
            return new long[] {least, most, most - least};
        }

        long between(int t, int what) {
            int[][] box = box(0, -1);
            return no(t, 0, texts.size() - 1) || no(what, 0, 2) || box == null ? NO : reckoning(t, box)[what];
        }

        int inch() {
            int[][] box = box(0, -1);
            return box == null ? -1 : Math.max(0, Math.min(99, Grammar.value(texts.get(law).get(1), box[0])));
        }

        long buy(int t, int coin, int what) {
            if (no(t, 0, texts.size() - 1) || no(coin, 0, 999) || no(what, 0, 1) || box(0, -1) == null) {
                return NO;
            }
            int n = 0;
            while (n < 4 && (n + 1) * inch() <= coin) {
                n++;
            }
            long best = NO;
            int digits = 0;
            for (int way = 0; way < 10000; way++) {
                int[] bought = new int[6];
                if (isWay(way, n, bought)) {
                    int[][] box = left(0);
                    for (int q = 0; q < 6; q++) {
                        for (int i = 0; i < bought[q]; i++) {
                            box[1][q] -= i % 2 == 0 ? 1 : 0;
                            box[0][q] += i % 2 == 0 ? 0 : 1;
                        }
                    }
                    box = pushed(box, -1);
                    if (box != null && (best == NO || reckoning(t, box)[2] < best)) {
                        best = reckoning(t, box)[2];
                        digits = way;
                    }
                }
            }
            return best == NO || what == 1 ? best : digits;
        }

        private static boolean isWay(int way, int n, int[] bought) {
            String digits = way == 0 ? "" : "" + way;
            char last = '1';
            for (int i = 0; i < digits.length(); i++) {
                char digit = digits.charAt(i);
                if (digit < last || digit > '6') {
                    return false;
                }
                last = digit;
                bought[digit - '1']++;
            }
            return digits.length() == n;
        }

        long worth(int t, int s) {
            if (no(t, 0, texts.size() - 1) || no(s, 0, sayings.size() - 1) || box(0, -1) == null) {
                return NO;
            }
            return reckoning(t, box(1 << s, -1))[2] - reckoning(t, box(0, -1))[2];
        }

        long exact(int t, int q, int v) {
            if (no(t, 0, texts.size() - 1) || no(q, 0, 5) || no(v, 0, 999)) {
                return NO;
            }
            int[][] box = left(0);
            box[0][q] = v;
            box[1][q] = v;
            box = pushed(box, -1);
            return box == null ? NO : reckoning(t, box)[2];
        }

        static long part(long above, long below, int part) {
            for (long by = 2; by <= Math.min(above, 1000); by++) {
                while (above % by == 0 && below % by == 0) {
                    above /= by;
                    below /= by;
                }
            }
            return part == 0 ? above : above == 0 ? 1 : below;
        }

        long wager(int q, int v, int part) {
            int[][] box = box(0, -1);
            if (no(q, 0, 5) || no(v, 0, 999) || no(part, 0, 1) || box == null) {
                return NO;
            }
            long above = 0;
            long below = 0;
            for (int w = box[0][q]; w <= box[1][q]; w++) {
                below++;
                above += w <= v ? 1 : 0;
            }
            return part(above, below, part);
        }

        long less(int a, int b, int part) {
            int[][] box = box(0, -1);
            if (no(a, 0, 5) || no(b, 0, 5) || a == b || no(part, 0, 1) || box == null) {
                return NO;
            }
            long above = 0;
            long below = 0;
            for (int v = box[0][a]; v <= box[1][a]; v++) {
                for (int w = box[0][b]; w <= box[1][b]; w++) {
                    below++;
                    above += v < w ? 1 : 0;
                }
            }
            return part(above, below, part);
        }

        int truth(int s) {
            return no(s, 0, 3) ? -2 : sheets[s] == null ? -11 : sheets[s].length != 6 ? -2 : 0;
        }

        int lies(int s) {
            int bits = truth(s);
            for (int i = 0; bits >= 0 && i < sayings.size(); i++) {
                int[] one = sayings.get(i);
                bits |= no(sheets[s][one[1]], from(one, one[0]), upTo(one, one[0])) ? 1 << i : 0;
            }
            return bits;
        }

        int breaks(int s) {
            int bits = truth(s);
            for (int k = 0; bits >= 0 && k < links.size(); k++) {
                int[] one = links.get(k);
                long ahead = (long) sheets[s][one[1]] - (long) sheets[s][one[0]];
                bits |= ahead < one[2] || ahead > one[3] ? 1 << k : 0;
            }
            return bits;
        }

        int judge(int s) {
            int[][] box = box(0, -1);
            if (truth(s) != 0 || box == null) {
                return truth(s) != 0 ? truth(s) : -9;
            }
            for (int q = 0; q < 6; q++) {
                if (no(sheets[s][q], box[0][q], box[1][q])) {
                    return q;
                }
            }
            return -1;
        }

        long reckon(int s, int t) {
            return truth(s) != 0 || no(t, 0, texts.size() - 1) ? NO : Grammar.value(texts.get(t).get(0), sheets[s]);
        }

        int laws(int s) {
            int bits = truth(s);
            for (int t = 0; bits >= 0 && t < texts.size(); t++) {
                bits |= Grammar.value(texts.get(t).get(2), sheets[s]) != 0 ? 1 << t : 0;
            }
            return bits;
        }

        int film(int s, int high) {
            int[][] box = box(0, -1);
            if (no(s, 0, 3) || no(high, 0, 1) || box == null) {
                return no(s, 0, 3) ? -2 : no(high, 0, 1) ? -7 : -9;
            }
            sheets[s] = box[high].clone();
            sorts[s] = 2;
            return 6;
        }

        int[] rowOf(int seed, int[][] box) {
            int[] row = new int[6];
            java.math.BigInteger lot = java.math.BigInteger.valueOf(seed + 1L);
            for (int q = 0; q < 6; q++) {
                lot = lot.multiply(java.math.BigInteger.valueOf(48271)).mod(java.math.BigInteger.valueOf(2147483647));
                row[q] = box[0][q] + (int) (lot.longValue() % (box[1][q] - box[0][q] + 1));
            }
            return row;
        }

        int drawn(int seed, int what) {
            int[][] box = box(0, -1);
            if (no(seed, 0, 99999) || no(what, 0, 6) || box == null) {
                return no(seed, 0, 99999) || no(what, 0, 6) ? -2 : -1;
            }
            int[] row = rowOf(seed, box);
            return what < 6 ? row[what] : Grammar.value(texts.get(law).get(2), row) != 0 ? 1 : 0;
        }

        long odds(int seed, int seeds, int part) {
            int[][] box = box(0, -1);
            if (no(seed, 0, 99999) || no(seeds, 1, 40) || no(part, 0, 1) || box == null) {
                return NO;
            }
            int met = 0;
            for (int i = 0; i < seeds; i++) {
                met += Grammar.value(texts.get(law).get(2), rowOf(seed + i, box)) != 0 ? 1 : 0;
            }
            return part(met, seeds, part);
        }

        int image() {
            keptSayings = new ArrayList<>(sayings);
            keptYear = year;
            keptLinks = links.size();
            keptLaw = law;
            return sayings.size();
        }

        int back() {
            if (keptSayings == null) {
                return -3;
            }
            sayings = new ArrayList<>(keptSayings);
            year = keptYear;
            links = new ArrayList<>(links.subList(0, keptLinks));
            law = keptLaw;
            return sayings.size();
        }

        int sheet(int s, int sort, int n) {
            if (no(s, 0, 3) || no(sort, -1, 2) || sort >= 0 && n > 40) {
                return -2;
            }
            if (sort >= 0 && n < 0) {
                return -14;
            }
            sorts[s] = sort;
            sheets[s] = sort < 0 ? null : new int[n];
            return 1;
        }

        int cell(int s, int i, int v) {
            if (no(s, 0, 3) || sheets[s] == null || no(i, 0, sheets[s].length - 1)) {
                return no(s, 0, 3) ? -2 : sheets[s] == null ? -11 : -12;
            }
            int unused = sorts[s] == 0 ? 24 : sorts[s] == 1 ? 16 : 0;
            sheets[s][i] = v << unused >> unused;
            return 1;
        }

        int copy(int s, int i, int other, int j, int n) {
            if (no(s, 0, 3) || no(other, 0, 3)) {
                return -2;
            }
            if (sheets[s] == null || sheets[other] == null) {
                return -11;
            }
            if (sorts[s] != sorts[other]) {
                return -13;
            }
            try {
                System.arraycopy(sheets[s], i, sheets[other], j, n);
            } catch (IndexOutOfBoundsException outside) {
                return -12;
            }
            return n;
        }

        int sayingsBy(int s, int sort, int at, int n) {
            if (no(s, 0, 3) || no(sort, 0, 2) || no(n, 0, 10)) {
                return -2;
            }
            if (sheets[s] == null) {
                return -11;
            }
            if (sorts[s] != sort) {
                return -13;
            }
            int came = 0;
            for (int k = 0; k < n; k++) {
                long place = (long) at + 4 * k;
                if (place < 0 || place + 3 >= sheets[s].length) {
                    return -12;
                }
                int p = (int) place;
                came += say(sheets[s][p], sheets[s][p + 1], sheets[s][p + 2], sheets[s][p + 3]) >= 0 ? 1 : 0;
            }
            return came;
        }

        int taken(int i, int kind) {
            if (no(kind, 0, 6) || no(i, 0, 17)) {
                return no(kind, 0, 6) ? -2 : -12;
            }
            boolean isSaying = i < 10;
            if (isSaying ? i >= sayings.size() : i - 10 >= links.size()) {
                return -11;
            }
            if (!isSaying) {
                return kind == 6 ? links.get(i - 10)[3] - links.get(i - 10)[2] : -13;
            }
            String[] with = {"0", "01", "02", "013", "024", "05"};
            return with[sayings.get(i)[0]].indexOf((char) ('0' + kind)) >= 0 ? i : -13;
        }
    }

    /** Which token may come next, kept as frames, one for each ( that is open; no recursion. */
    private static final class Grammar {
        final List<List<String>> parts = new ArrayList<>();
        private final String bytes;
        private final List<String> tokens = new ArrayList<>();
        private final List<Integer> places = new ArrayList<>();
        /** Of each frame: may a not come, has < or = come, how many not are open, how many -. */
        private final List<int[]> frames = new ArrayList<>();
        private int open = 0;

        Grammar(String bytes) {
            this.bytes = bytes;
            java.util.regex.Matcher each = java.util.regex.Pattern
                    .compile("[a-z]+|[0-9]+|[();+*<=-]|[ \n]|.|[^.]", java.util.regex.Pattern.DOTALL).matcher(bytes);
            while (each.find()) {
                if (!each.group().equals(" ") && !each.group().equals("\n")) {
                    tokens.add(each.group());
                    places.add(each.start());
                }
            }
        }

        /** -1: there is none. */
        int fault() {
            String[] keys = {"reckons", "costs", "meets"};
            int at = 0;
            for (int part = 0; part < 3; part++) {
                if (at >= tokens.size() || !tokens.get(at).equals(keys[part])) {
                    return placeOf(at);
                }
                int start = at + 1;
                at = endOf(start);
                if (at < 0) {
                    return placeOf(-1 - at);
                }
                parts.add(tokens.subList(start, at));
                at++;
            }
            return at < tokens.size() ? placeOf(at) : -1;
        }

        private int placeOf(int at) {
            return at < tokens.size() ? places.get(at) : bytes.length();
        }

        /** Where the ; stands behind an E; or -1 less the number of the token that can't stand. */
        private int endOf(int start) {
            frames.clear();
            open = 0;
            frames.add(new int[] {1, 0, 0, 0});
            boolean wantsOne = true;
            for (int at = start; at < tokens.size(); at++) {
                String token = tokens.get(at);
                int[] frame = frames.get(frames.size() - 1);
                if (!wantsOne && token.equals(";") && frames.size() == 1) {
                    return at;
                }
                if (wantsOne ? !one(token, frame) : !behindOne(token, frame)) {
                    return -1 - at;
                }
                wantsOne = wantsOne ? !isOperand(token) : !token.equals(")");
            }
            return -1 - tokens.size();
        }

        private static boolean isOperand(String token) {
            return token.matches("[a-f]|[0-9]{1,4}");
        }

        private boolean one(String token, int[] frame) {
            if (isOperand(token)) {
                open -= frame[3];
                frame[3] = 0;
                return true;
            }
            boolean opener = token.equals("(") || token.equals("-") || token.equals("not") && frame[0] == 1;
            if (!opener || open == 5) {
                return false;
            }
            open++;
            if (token.equals("(")) {
                frames.add(new int[] {1, 0, 0, 0});
            } else if (token.equals("-")) {
                frame[3]++;
                frame[0] = 0;
            } else {
                frame[2]++;
            }
            return true;
        }

        private boolean behindOne(String token, int[] frame) {
            boolean joins = token.equals("or") || token.equals("and");
            if (joins || token.equals(")")) {
                if (!joins && frames.size() == 1) {
                    return false;
                }
                open -= frame[2];
                frame[2] = 0;
                frame[1] = 0;
                frame[0] = 1;
                if (!joins) {
                    frames.remove(frames.size() - 1);
                    int[] outer = frames.get(frames.size() - 1);
                    open -= 1 + outer[3];
                    outer[3] = 0;
                }
                return true;
            }
            frame[0] = 0;
            if (token.equals("<") || token.equals("=")) {
                frame[1]++;
                return frame[1] == 1;
            }
            return token.equals("+") || token.equals("-") || token.equals("*");
        }

        /** Splits at what binds least, the last one of it. */
        static int value(List<String> e, int[] row) {
            String[][] binds = {{"or"}, {"and"}, {"not"}, {"<", "="}, {"+", "-"}, {"*"}};
            for (String[] joins : binds) {
                int at = lastOf(e, joins);
                if (at >= 0 && joins[0].equals("not")) {
                    return value(e.subList(1, e.size()), row) == 0 ? 1 : 0;
                }
                if (at >= 0) {
                    return join(e.get(at), value(e.subList(0, at), row), value(e.subList(at + 1, e.size()), row));
                }
            }
            String first = e.get(0);
            if (first.equals("-")) {
                return -value(e.subList(1, e.size()), row);
            }
            if (first.equals("(")) {
                return value(e.subList(1, e.size() - 1), row);
            }
            return Character.isDigit(first.charAt(0)) ? Integer.parseInt(first) : row[first.charAt(0) - 'a'];
        }

        private static int lastOf(List<String> e, String[] joins) {
            if (joins[0].equals("not")) {
                return e.get(0).equals("not") ? 0 : -1;
            }
            int deep = 0;
            for (int at = e.size() - 1; at > 0; at--) {
                String token = e.get(at);
                deep += token.equals(")") ? 1 : token.equals("(") ? -1 : 0;
                String before = e.get(at - 1);
                if (deep == 0 && List.of(joins).contains(token) && (isOperand(before) || before.equals(")"))) {
                    return at;
                }
            }
            return -1;
        }

        private static int join(String by, int x, int y) {
            switch (by) {
                case "or": return x != 0 || y != 0 ? 1 : 0;
                case "and": return x != 0 && y != 0 ? 1 : 0;
                case "<": return x < y ? 1 : 0;
                case "=": return x == y ? 1 : 0;
                case "+": return x + y;
                case "-": return x - y;
                default: return x * y;
            }
        }
    }
}
