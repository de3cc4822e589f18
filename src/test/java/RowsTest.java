import java.util.Random;

/**
 * Spans, told as the document tells them: by looking at each row of six numbers there is. Sayings
 * leave a few numbers of each quantity, so that all rows can be looked at; runs are always the same.
 */
public final class RowsTest {
    private static final int RUNS = 3000, WIDEST = 4;
    private static final long NO = BetweenThisAndThat.NO;

    private static int wrong = 0;
    private static int checked = 0;
    private static int couldBe = 0;

    /** Of the rows by which all holds: the least and the most of each quantity, and of each difference. */
    private static final class Rows {
        boolean any = false;
        final int[] least = new int[6];
        final int[] most = new int[6];
        final int[][] leastAhead = new int[6][6];
        final int[][] mostAhead = new int[6][6];

        Rows(int[] begin, int[] end, int[][] links, int without) {
            int[] row = begin.clone();
            boolean more = true;
            for (int q = 0; q < 6; q++) {
                more &= begin[q] <= end[q];
            }
            while (more) {
                if (holds(row, links, without)) {
                    take(row);
                }
                int q = 0;
                while (q < 6 && row[q] == end[q]) {
                    row[q] = begin[q];
                    q++;
                }
                more = q < 6;
                if (more) {
                    row[q]++;
                }
            }
        }

        private static boolean holds(int[] row, int[][] links, int without) {
            for (int k = 0; k < links.length; k++) {
                int ahead = row[links[k][1]] - row[links[k][0]];
                if (k != without && (ahead < links[k][2] || ahead > links[k][3])) {
                    return false;
                }
            }
            return true;
        }

        private void take(int[] row) {
            for (int a = 0; a < 6; a++) {
                least[a] = any ? Math.min(least[a], row[a]) : row[a];
                most[a] = any ? Math.max(most[a], row[a]) : row[a];
                for (int b = 0; b < 6; b++) {
                    int ahead = row[b] - row[a];
                    leastAhead[a][b] = any ? Math.min(leastAhead[a][b], ahead) : ahead;
                    mostAhead[a][b] = any ? Math.max(mostAhead[a][b], ahead) : ahead;
                }
            }
            any = true;
        }

        /** The width of a + b. */
        long width() {
            return any ? most[0] + most[1] - least[0] - least[1] : NO;
        }
    }

    public static void main(String[] args) {
        for (int run = 0; run < RUNS; run++) {
            oneRun(run, new Random(run));
        }
        System.out.println(checked + " answers looked at (" + couldBe + " of " + RUNS + " runs can be), "
                + wrong + " not as due");
        if (wrong != 0 || couldBe < RUNS / 5 || couldBe > RUNS * 4 / 5) {
            System.exit(1);
        }
    }

    private static void due(int run, String call, long got, long want) {
        checked++;
        if (got != want) {
            wrong++;
            System.out.println("run " + run + ": " + call + " answered " + got + ", due is " + want);
        }
    }

    private static void oneRun(int run, Random lot) {
        BetweenThisAndThat x = new BetweenThisAndThat();
        int[] begin = new int[6];
        int[] end = new int[6];
        // at the ends of 0 .. 999, too
        int around = run % 3 == 0 ? 4 : run % 3 == 1 ? 990 : 400;
        for (int q = 0; q < 6; q++) {
            begin[q] = Math.max(0, around + lot.nextInt(12) - 4);
            end[q] = Math.min(999, begin[q] + lot.nextInt(WIDEST));
            x.say(0, q, begin[q], end[q]);
        }
        int[][] links = new int[lot.nextInt(9)][];
        for (int k = 0; k < links.length; k++) {
            int a = lot.nextInt(6);
            int b = (a + 1 + lot.nextInt(5)) % 6;
            int low = begin[b] - begin[a] + lot.nextInt(6) - 3;
            links[k] = new int[] {a, b, low, low + lot.nextInt(6)};
            x.link(a, b, links[k][2], links[k][3]);
        }
        Rows rows = new Rows(begin, end, links, -1);
        couldBe += rows.any ? 1 : 0;
        due(run, "can()", x.can(), rows.any ? 1 : 0);
        due(run, "between(0, 2)", x.between(0, 2), rows.width());
        for (int a = 0; a < 6; a++) {
            due(run, "span(" + a + ", 0)", x.span(a, 0), rows.any ? rows.least[a] : -1);
            due(run, "span(" + a + ", 1)", x.span(a, 1), rows.any ? rows.most[a] : -1);
            for (int b = 0; b < 6; b++) {
                String of = "apart(" + a + ", " + b;
                due(run, of + ", 0)", x.apart(a, b, 0), rows.any ? rows.leastAhead[a][b] : -100000);
                due(run, of + ", 1)", x.apart(a, b, 1), rows.any ? rows.mostAhead[a][b] : -100000);
            }
        }
        blamed(run, x, rows.any, begin, end, links);
        inThought(run, lot, x, rows.any, begin, end, links);
    }

    private static void blamed(int run, BetweenThisAndThat x, boolean can, int[] begin, int[] end, int[][] links) {
        int bits = 0;
        for (int k = 0; k < links.length && !can; k++) {
            bits |= new Rows(begin, end, links, k).any ? 1 << k : 0;
        }
        due(run, "blame()", x.blame(), bits);
    }

    /** A quantity told exactly, and inches bought of one or two (text 0 is a law by which one costs 1). */
    private static void inThought(int run, Random lot, BetweenThisAndThat x, boolean can,
            int[] begin, int[] end, int[][] links) {
        int q = lot.nextInt(6);
        int v = Math.max(0, Math.min(999, begin[q] + lot.nextInt(7) - 2));
        int[] from = begin.clone();
        int[] to = end.clone();
        from[q] = v;
        to[q] = v;
        due(run, "exact(0, " + q + ", " + v + ")", x.exact(0, q, v), new Rows(from, to, links, -1).width());
        long best = NO;
        int first = 0;
        for (int way = 11; way <= 66 && can; way++) {
            int one = way / 10 - 1;
            int other = way % 10 - 1;
            if (one > other || other > 5) {
                continue;
            }
            from = begin.clone();
            to = end.clone();
            to[one]--;
            if (one == other) {
                from[one]++;
            } else {
                to[other]--;
            }
            long width = new Rows(from, to, links, -1).width();
            if (width != NO && (best == NO || width < best)) {
                best = width;
                first = way;
            }
        }
        due(run, "buy(0, 2, 0)", x.buy(0, 2, 0), best == NO ? NO : first);
        due(run, "buy(0, 2, 1)", x.buy(0, 2, 1), best);
    }
}
