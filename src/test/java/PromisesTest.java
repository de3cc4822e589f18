/** Each promise of the document in its order: ordinary inputs, the edges it names, wrong inputs. */
public final class PromisesTest {
    private static final long NO = BetweenThisAndThat.NO;
    private static final int LEAST = Integer.MIN_VALUE, MOST = Integer.MAX_VALUE;
    private static int wrong = 0;
    private static int checked = 0;
    private static int promise = 0;

    private static void due(String call, long got, long want) {
        checked++;
        if (got != want) {
            wrong++;
            System.out.println("promise " + promise + ": " + call + " answered " + got + ", due is " + want);
        }
    }

    private static BetweenThisAndThat fresh() {
        return new BetweenThisAndThat();
    }

    private static int feedAll(BetweenThisAndThat x, String bytes) {
        int had = x.count(5);
        for (int i = 0; i < bytes.length(); i++) {
            had = x.feed(1, bytes.charAt(i), 0, 0, 0, 0);
        }
        return had;
    }

    private static int textOf(BetweenThisAndThat x, String bytes) {
        feedAll(x, bytes);
        return x.text();
    }

    private static int reckons(BetweenThisAndThat x, String e) {
        return textOf(x, "reckons " + e + ";costs 1;meets 1;");
    }

    private static void fill(BetweenThisAndThat x, int s, int sort, int... cells) {
        x.sheet(s, sort, cells.length);
        for (int i = 0; i < cells.length; i++) {
            x.cell(s, i, cells[i]);
        }
    }

    public static void main(String[] args) {
        aNewObject();
        count();
        set();
        feed();
        text();
        force();
        say();
        unsay();
        told();
        link();
        linkTold();
        can();
        span();
        apart();
        clashes();
        wrongOnes();
        blame();
        between();
        inch();
        buy();
        worth();
        exact();
        wager();
        less();
        lies();
        breaks();
        judge();
        reckon();
        laws();
        film();
        drawn();
        odds();
        image();
        back();
        sheet();
        cell();
        copy();
        sayingsBy();
        taken();
        System.out.println(checked + " answers looked at, " + wrong + " not as due");
        if (wrong != 0) {
            System.exit(1);
        }
    }

    private static void aNewObject() {
        promise = 1;
        BetweenThisAndThat x = fresh();
        int[] counts = {0, 0, 0, 1, 0, 0};
        for (int what = 0; what < 6; what++) {
            due("count(" + what + ")", x.count(what), counts[what]);
        }
        for (int s = 0; s < 4; s++) {
            due("cell of a missing sheet", x.cell(s, 0, 0), -11);
        }
        due("back()", x.back(), -3);
        due("can()", x.can(), 1);
    }

    private static void count() {
        promise = 2;
        BetweenThisAndThat x = fresh();
        x.say(0, 0, 1, 2);
        x.say(0, 0, 1, 2);
        x.link(0, 1, 0, 0);
        x.set(31);
        reckons(x, "a");
        reckons(x, "b");
        x.force(2);
        feedAll(x, "abcdefg");
        int[] counts = {2, 1, 31, 3, 2, 7};
        for (int what = 0; what < 6; what++) {
            due("count(" + what + ")", x.count(what), counts[what]);
        }
        due("count(-1)", x.count(-1), -2);
        due("count(6)", x.count(6), -2);
        due("count least", x.count(LEAST), -2);
        due("count most", x.count(MOST), -2);
    }

    private static void set() {
        promise = 3;
        BetweenThisAndThat x = fresh();
        due("set(99)", x.set(99), 0);
        due("set(0)", x.set(0), 99);
        due("set(7)", x.set(7), 0);
        due("set(100)", x.set(100), -2);
        due("set(-1)", x.set(-1), -2);
        due("the year", x.count(2), 7);
    }

    private static void feed() {
        promise = 4;
        BetweenThisAndThat x = fresh();
        due("feed 5", x.feed(5, 0, 255, 32, 10, 97), 5);
        due("feed 2", x.feed(2, 1, 2, 3, 4, 5), 7);
        due("feed n 0", x.feed(0, 1, 2, 3, 4, 5), -2);
        due("feed n 6", x.feed(6, 1, 2, 3, 4, 5), -2);
        for (int place = 0; place < 5; place++) {
            for (int v : new int[] {-1, 256, LEAST, MOST}) {
                int[] five = {1, 1, 1, 1, 1};
                five[place] = v;
                due("feed of " + v + " at " + place,
                        x.feed(1, five[0], five[1], five[2], five[3], five[4]), -2);
            }
        }
        due("bytes", x.count(5), 7);
        for (int i = 0; i < 30; i++) {
            due("feed", x.feed(5, 9, 9, 9, 9, 9), 12 + 5 * i);
        }
        due("feed 4 into room for 3", x.feed(4, 9, 9, 9, 9, 9), -4);
        due("bytes", x.count(5), 157);
        due("BAD ahead of FULL", x.feed(4, 9, 9, 9, 9, 256), -2);
        due("feed 3 into room for 3", x.feed(3, 9, 9, 9, 9, 9), 160);
        due("feed 1 into no room", x.feed(1, 9, 9, 9, 9, 9), -4);
        x = fresh();
        // the order of the bytes, told by the text
        x.feed(5, 'r', 'e', 'c', 'k', 'o');
        x.feed(5, 'n', 's', ' ', '1', '2');
        x.feed(5, '3', '4', ';', 'c', 'o');
        x.feed(5, 's', 't', 's', ' ', '1');
        x.feed(5, ';', 'm', 'e', 'e', 't');
        x.feed(4, 's', ' ', '1', ';', 'x');
        due("text()", x.text(), 1);
        due("between", x.between(1, 0), 1234);
    }

    private static void text() {
        promise = 5;
        BetweenThisAndThat x = fresh();
        due("text() of nothing", x.text(), -100);
        for (int t = 1; t < 6; t++) {
            due("text", reckons(x, "" + t), t);
            due("tape", x.count(5), 0);
        }
        feedAll(x, "nothing");
        due("text() FULL ahead of FAULT", x.text(), -4);
        due("tape stays", x.count(5), 7);
        for (int t = 1; t < 6; t++) {
            due("between", x.between(t, 0), t);
        }
        faultsOfTexts();
        faultsOfOpenOnes();
        valuesOfTexts();
    }

    private static void fault(String bytes, int place) {
        BetweenThisAndThat x = fresh();
        due("text() of '" + bytes + "'", textOf(x, bytes), -100 - place);
        due("tape behind a fault", x.count(5), 0);
        due("texts behind a fault", x.count(3), 1);
    }

    private static void faultsOfTexts() {
        String rest = ";costs 1;meets 1;";
        fault("  \n ", 4);
        fault("reckons", 7);
        fault("reckons ", 8);
        fault("reckonsa" + rest, 0);
        fault("reckon a" + rest, 0);
        fault("costs 1;", 0);
        fault("a", 0);
        fault("reckons g" + rest, 8);
        fault("reckons ab" + rest, 8);
        fault("reckons az" + rest, 8);
        fault("reckons zebra" + rest, 8);
        fault("reckons a b" + rest, 10);
        fault("reckons 12a" + rest, 10);
        fault("reckons 12345" + rest, 8);
        fault("reckons 00000" + rest, 8);
        fault("reckons a+12345" + rest, 10);
        fault("reckons a < b < c" + rest, 14);
        fault("reckons a = b < c" + rest, 14);
        fault("reckons a + not b" + rest, 12);
        fault("reckons - not b" + rest, 10);
        fault("reckons a < not b" + rest, 12);
        fault("reckons a or or b" + rest, 13);
        fault("reckons a and" + rest, 13);
        fault("reckons +a" + rest, 8);
        fault("reckons ()" + rest, 9);
        fault("reckons (a" + rest, 10);
        fault("reckons a)" + rest, 9);
        fault("reckons (a;b)" + rest, 10);
        fault("reckons a;;" + rest, 10);
        fault("reckons a;meets 1;costs 1;", 10);
        fault("reckons a;costs 1;meets 1", 25);
        fault("reckons a;costs 1;meets 1 \n ", 28);
        fault("reckons a;costs 1;meets 1;;", 26);
        fault("reckons a;costs 1;meets 1; reckons", 27);
        fault("reckons costs" + rest, 8);
        fault("reckons a\t" + rest, 9);
        fault("reckons a\r" + rest, 9);
        fault("reckons A" + rest, 8);
        fault("reckons a/b" + rest, 9);
        fault("reckons a>b" + rest, 9);
        fault("reckons a" + (char) 0 + rest, 9);
        fault("reckons a" + (char) 255 + rest, 9);
        fault("reckons a nota" + rest, 10);
        fault("reckons orr" + rest, 8);
        fault("reckons 1 {", 10);
        BetweenThisAndThat x = fresh();
        due("a long one", textOf(x, "reckons 12345678901234567890"), -108);
        due("what the tape had does not count", textOf(x, "reckons 123"), -111);
        due("a word's end likewise", textOf(x, "reckons"), -107);
    }

    private static void faultsOfOpenOnes() {
        String rest = ";costs 1;meets 1;";
        fault("reckons ((((((a))))))" + rest, 13);
        fault("reckons ------a" + rest, 13);
        fault("reckons not not not not not not a" + rest, 28);
        fault("reckons (-(-(-a)))" + rest, 13);
        fault("reckons not (not -(-a))" + rest, 19);
        fault("reckons not (not -((a)))" + rest, 19);
        fault("reckons not a < -(-((a)))" + rest, 20);
        fault("reckons not(a)+(((((a)))))" + rest, 19);
        fault("reckons (((((not a)))))" + rest, 13);
        BetweenThisAndThat x = fresh();
        due("five (", reckons(x, "(((((a)))))+(((((-1)))))"), -100 - 25);
        due("five ( again", reckons(x, "(((((a)))))+(((((1)))))"), 1);
        due("five -", reckons(x, "-----a - -----b * -----c"), 2);
        due("five not", reckons(x, "not not not not not a and not not not not not b"), 3);
        due("a - ends with its ONE", reckons(x, "-a+(((((a)))))"), 4);
        due("a - is closed by its )", reckons(x, "-((((a))))*-((((a))))"), 5);
    }

    private static void value(String e, int want) {
        BetweenThisAndThat x = fresh();
        fill(x, 0, 2, 1, 2, 3, 0, -7, 2000000000);
        due("text of " + e, reckons(x, e), 1);
        due("reckons " + e, x.reckon(0, 1), want);
    }

    private static void valuesOfTexts() {
        value("a", 1);
        value("e", -7);
        value("0", 0);
        value("9999", 9999);
        value("0009", 9);
        value("a-b-c", -4);
        value("a-(b-c)", 2);
        value("a+b*c", 7);
        value("(a+b)*c", 9);
        value("-a*c", -3);
        value("b--c", 5);
        value("- - b", 2);
        value("f+f", -294967296);
        value("f*f", 2000000000 * 2000000000);
        value("-9999*9999*9999", -9999 * 9999 * 9999);
        value("a<b", 1);
        value("b<b", 0);
        value("c<b", 0);
        value("b=2", 1);
        value("b=3", 0);
        value("e<d", 1);
        value("b or d", 1);
        value("d or e", 1);
        value("d or d", 0);
        value("b and c", 1);
        value("b and d", 0);
        value("not d", 1);
        value("not e", 0);
        value("not not c", 1);
        value("not a < b", 0);
        value("not a = 2 and b", 1);
        value("a or b and d", 1);
        value("d and b or a", 1);
        value("(a or b) and d", 0);
        value("a+1<b+1", 1);
        value("a + 1 = b * 1", 1);
        value("(a<b)+(b<c)+(c<a)", 2);
        value("\n a\n+ b ", 3);
        value("c", 3);
        value("1 < 2 and 3", 1);
    }

    private static void force() {
        promise = 6;
        BetweenThisAndThat x = fresh();
        due("force(0)", x.force(0), 0);
        due("force(1)", x.force(1), -2);
        textOf(x, "reckons 1;costs 5;meets 0;");
        textOf(x, "reckons 1;costs 6;meets 0;");
        due("inch by the first law", x.inch(), 1);
        due("force(2)", x.force(2), 0);
        due("inch by law 2", x.inch(), 6);
        due("force(1)", x.force(1), 2);
        due("inch by law 1", x.inch(), 5);
        due("force(3)", x.force(3), -2);
        due("force(-1)", x.force(-1), -2);
        due("the law", x.count(4), 1);
    }

    private static void say() {
        promise = 7;
        BetweenThisAndThat x = fresh();
        due("say", x.say(0, 0, 0, 999), 0);
        due("say", x.say(59, 5, 999, 999), 1);
        due("kindMore -1", x.say(-1, 0, 0, 0), -2);
        due("kindMore 60", x.say(60, 0, 0, 0), -2);
        due("of -1", x.say(0, -1, 0, 0), -2);
        due("of 6", x.say(0, 6, 0, 0), -2);
        due("low -1", x.say(0, 0, -1, 0), -2);
        due("high 1000", x.say(0, 0, 0, 1000), -2);
        due("low above high", x.say(0, 0, 1, 0), -2);
        due("all", x.say(LEAST, MOST, LEAST, MOST), -2);
        for (int s = 2; s < 10; s++) {
            due("say", x.say(s, s % 6, s, s + 1), s);
        }
        due("say FULL", x.say(0, 0, 0, 0), -4);
        due("BAD ahead of FULL", x.say(60, 0, 0, 0), -2);
        due("count(0)", x.count(0), 10);
    }

    private static void unsay() {
        promise = 8;
        BetweenThisAndThat x = fresh();
        due("unsay of none", x.unsay(), -3);
        x.say(0, 0, 1, 2);
        x.say(0, 1, 3, 4);
        due("unsay", x.unsay(), 1);
        due("the one that is left", x.told(0, 2), 1);
        due("the other", x.told(1, 2), -5);
        due("span", x.span(1, 1), 999);
        due("unsay", x.unsay(), 0);
        due("unsay", x.unsay(), -3);
        due("say", x.say(0, 0, 5, 6), 0);
        due("anew", x.told(0, 2), 5);
    }

    private static void toldIs(int kindMore, int low, int high, int year, int from, int upTo) {
        BetweenThisAndThat x = fresh();
        x.say(kindMore, 3, low, high);
        x.set(year);
        int[] told = {kindMore / 10, 3, low, high, kindMore % 10, from, upTo};
        for (int what = 0; what < 7; what++) {
            due("told " + what + " of " + kindMore + " " + low + " " + high + " in " + year,
                    x.told(0, what), told[what]);
        }
    }

    private static void told() {
        promise = 9;
        toldIs(5, 10, 30, 50, 10, 30);
        toldIs(15, 10, 30, 50, 5, 35);
        toldIs(19, 5, 995, 50, 0, 999);
        toldIs(14, 4, 995, 0, 0, 999);
        toldIs(25, 10, 30, 50, 15, 25);
        toldIs(29, 10, 20, 50, 15, 15);
        toldIs(29, 10, 21, 50, 15, 15);
        toldIs(23, 10, 15, 0, 12, 12);
        toldIs(20, 10, 15, 0, 10, 15);
        toldIs(35, 100, 130, 0, 95, 135);
        toldIs(35, 100, 130, 50, 45, 185);
        toldIs(35, 20, 930, 99, 0, 999);
        toldIs(45, 10, 31, 4, 15, 26);
        toldIs(45, 10, 31, 5, 20, 20);
        toldIs(45, 10, 31, 99, 20, 20);
        toldIs(40, 10, 31, 0, 20, 20);
        toldIs(49, 10, 13, 8, 11, 11);
        toldIs(55, 10, 31, 9, 10, 999);
        BetweenThisAndThat x = fresh();
        due("told of none", x.told(0, 0), -5);
        x.say(0, 0, 0, 0);
        due("told(-1, 9)", x.told(-1, 9), -5);
        due("told(1, 0)", x.told(1, 0), -5);
        due("told(0, 7)", x.told(0, 7), -7);
        due("told(0, -1)", x.told(0, -1), -7);
        due("told most", x.told(MOST, LEAST), -5);
    }

    private static void link() {
        promise = 10;
        BetweenThisAndThat x = fresh();
        due("link", x.link(0, 5, -999, 999), 0);
        due("link", x.link(5, 0, 7, 7), 1);
        due("alike", x.link(2, 2, 0, 0), -2);
        due("from -1", x.link(-1, 2, 0, 0), -2);
        due("from 6", x.link(6, 2, 0, 0), -2);
        due("to -1", x.link(2, -1, 0, 0), -2);
        due("to 6", x.link(2, 6, 0, 0), -2);
        due("low", x.link(0, 1, -1000, 0), -2);
        due("high", x.link(0, 1, 0, 1000), -2);
        due("low above high", x.link(0, 1, 1, 0), -2);
        for (int k = 2; k < 8; k++) {
            due("link", x.link(0, 1, 0, k), k);
        }
        due("FULL", x.link(0, 1, 0, 1), -4);
        due("BAD ahead of FULL", x.link(1, 1, 0, 1), -2);
        due("count(1)", x.count(1), 8);
    }

    private static void linkTold() {
        promise = 11;
        BetweenThisAndThat x = fresh();
        due("of none", x.linkTold(0, 0), -5);
        x.link(1, 4, -5, 9);
        x.link(3, 2, 0, 1);
        int[][] told = {{1, 4, -5, 9}, {3, 2, 0, 1}};
        for (int k = 0; k < 2; k++) {
            for (int what = 0; what < 4; what++) {
                due("linkTold " + k + " " + what, x.linkTold(k, what), told[k][what]);
            }
        }
        due("what 4", x.linkTold(0, 4), -7);
        due("what -1", x.linkTold(0, -1), -7);
        due("link 2", x.linkTold(2, 4), -5);
        due("link -1", x.linkTold(-1, 0), -5);
    }

    private static void can() {
        promise = 12;
        BetweenThisAndThat x = fresh();
        x.say(0, 0, 10, 20);
        x.say(0, 0, 20, 30);
        due("can, by one number", x.can(), 1);
        x.say(0, 0, 21, 30);
        due("can't, by sayings", x.can(), 0);
        x.unsay();
        x.link(0, 1, 979, 999);
        due("can, just so", x.can(), 1);
        x.link(0, 1, 980, 999);
        due("can't, by 999", x.can(), 0);
        x = fresh();
        x.link(0, 5, -9, -9);
        x.link(1, 4, -9, -9);
        due("can, by links that tell less", x.can(), 1);
        x.link(5, 4, 1, 1);
        x.link(1, 0, 0, 0);
        due("can't, by a ring of four", x.can(), 0);
        x = fresh();
        x.link(0, 1, 1, 5);
        x.link(1, 2, 1, 5);
        due("can", x.can(), 1);
        x.link(2, 0, -1, 5);
        due("can't, by links in a ring", x.can(), 0);
        x = fresh();
        x.say(40, 0, 10, 12);
        x.say(43, 0, 10, 20);
        due("can, ahead of the year", x.can(), 0);
        x = fresh();
        x.say(0, 0, 15, 15);
        x.say(43, 0, 10, 12);
        x.say(30, 1, 10, 12);
        x.say(0, 1, 14, 14);
        due("can't, ahead of the year", x.can(), 0);
        x.unsay();
        x.unsay();
        x.unsay();
        x.say(30, 0, 10, 12);
        due("can't yet", x.can(), 0);
        x.set(3);
        due("can in year 3", x.can(), 1);
        x.set(2);
        due("can't in year 2", x.can(), 0);
    }

    private static void spanIs(BetweenThisAndThat x, int q, int... told) {
        for (int what = 0; what < 5; what++) {
            due("span " + q + " " + what, x.span(q, what), told[what]);
        }
    }

    private static void span() {
        promise = 13;
        BetweenThisAndThat x = fresh();
        x.say(0, 0, 10, 30);
        x.say(0, 0, 5, 25);
        x.say(0, 1, 0, 100);
        x.link(0, 1, 5, 7);
        x.link(1, 2, -999, -3);
        spanIs(x, 0, 10, 25, 15, 10, 25);
        spanIs(x, 1, 15, 32, 17, 0, 100);
        spanIs(x, 2, 0, 29, 29, 0, 999);
        spanIs(x, 3, 0, 999, 999, 0, 999);
        x.say(0, 2, 13, 999);
        spanIs(x, 1, 16, 32, 16, 0, 100);
        spanIs(x, 0, 10, 25, 15, 10, 25);
        x.say(0, 2, 20, 999);
        spanIs(x, 0, 16, 25, 9, 10, 25);
        x.say(0, 2, 30, 40);
        spanIs(x, 0, -1, -1, -1, 10, 25);
        spanIs(x, 2, -1, -1, -1, 30, 40);
        due("quantity 6", x.span(6, 0), -5);
        due("quantity -1", x.span(-1, 9), -5);
        due("what 5", x.span(0, 5), -7);
        due("what -1", x.span(0, -1), -7);
    }

    private static void apart() {
        promise = 14;
        BetweenThisAndThat x = fresh();
        due("apart", x.apart(0, 1, 0), -999);
        due("apart", x.apart(0, 1, 1), 999);
        x.say(0, 0, 10, 30);
        x.say(0, 1, 20, 25);
        due("apart", x.apart(0, 1, 0), -10);
        due("apart", x.apart(0, 1, 1), 15);
        due("apart", x.apart(1, 0, 0), -15);
        due("apart", x.apart(1, 0, 1), 10);
        x.link(0, 2, 3, 4);
        x.link(1, 2, 1, 6);
        due("apart by two links", x.apart(0, 1, 0), -3);
        due("apart by two links", x.apart(0, 1, 1), 3);
        due("apart by one", x.apart(0, 2, 0), 3);
        x.link(0, 3, -9, -9);
        x.link(0, 4, 7, 8);
        due("by way of a", x.apart(3, 4, 0), 16);
        due("by way of a", x.apart(3, 4, 1), 17);
        due("alike", x.apart(5, 5, 0), 0);
        due("alike", x.apart(5, 5, 1), 0);
        due("a 6", x.apart(6, 0, 0), -100000);
        due("b -1", x.apart(0, -1, 0), -100000);
        due("what 2", x.apart(0, 1, 2), -100000);
        due("what -1", x.apart(0, 1, -1), -100000);
        x.say(0, 0, 100, 100);
        due("can't be", x.apart(3, 4, 0), -100000);
    }

    private static void clashes() {
        promise = 15;
        BetweenThisAndThat x = fresh();
        due("none", x.clashes(0), 0);
        due("none", x.clashes(1), -1);
        x.say(0, 0, 10, 20);
        x.say(0, 1, 21, 30);
        x.say(0, 0, 20, 30);
        due("one in common", x.clashes(0), 0);
        x.say(0, 0, 21, 30);
        due("one pair", x.clashes(0), 1);
        due("0 and 3", x.clashes(1), 3);
        x.say(0, 1, 0, 5);
        due("two pairs", x.clashes(0), 2);
        due("0 and 3", x.clashes(1), 3);
        x.say(30, 1, 6, 9);
        due("three pairs", x.clashes(0), 4);
        x.set(1);
        due("a tale in year 1", x.clashes(0), 3);
        x.set(12);
        due("a tale in year 12", x.clashes(0), 2);
        due("what 2", x.clashes(2), -2);
        due("what -1", x.clashes(-1), -2);
        x = fresh();
        x.say(0, 0, 1, 1);
        x.say(0, 1, 2, 2);
        x.say(0, 1, 3, 3);
        due("the first", x.clashes(1), 12);
        x.link(0, 1, 9, 9);
        due("links don't matter", x.clashes(0), 1);
    }

    private static void wrongOnes() {
        promise = 16;
        BetweenThisAndThat x = fresh();
        due("none", x.wrong(0), 0);
        due("none", x.wrong(1), 0);
        x.say(0, 0, 10, 20);
        x.say(0, 0, 30, 40);
        due("one", x.wrong(0), 1);
        due("the first of like ones", x.wrong(1), 1);
        x.say(0, 0, 15, 20);
        due("one", x.wrong(0), 1);
        due("the second", x.wrong(1), 2);
        x.say(0, 0, 35, 50);
        due("two", x.wrong(0), 2);
        due("two, the least as bits", x.wrong(1), 5);
        x.link(0, 1, 990, 999);
        due("all but none", x.wrong(0), 4);
        due("all", x.wrong(1), 15);
        x.link(0, 1, -5, -5);
        due("it can't be without all", x.wrong(0), -1);
        due("it can't be without all", x.wrong(1), -1);
        due("BAD ahead of -1", x.wrong(2), -2);
        due("BAD", x.wrong(-1), -2);
        x = fresh();
        for (int s = 0; s < 10; s++) {
            x.say(0, 0, s, s);
        }
        due("nine of ten", x.wrong(0), 9);
        due("nine of ten", x.wrong(1), 511);
    }

    private static void blame() {
        promise = 17;
        BetweenThisAndThat x = fresh();
        due("none", x.blame(), 0);
        x.link(0, 1, 1, 5);
        x.link(1, 2, 1, 5);
        x.link(3, 4, 0, 0);
        due("can be", x.blame(), 0);
        x.link(2, 0, 0, 5);
        due("the ring", x.blame(), 1 + 2 + 8);
        x.link(1, 0, 0, 5);
        due("two rings", x.blame(), 1);
        x.link(0, 1, 6, 7);
        due("nobody alone", x.blame(), 0);
        x = fresh();
        x.say(0, 0, 1, 1);
        x.say(0, 0, 2, 2);
        x.link(0, 1, 0, 0);
        due("sayings alone", x.blame(), 0);
    }

    private static void between() {
        promise = 18;
        BetweenThisAndThat x = fresh();
        x.say(0, 0, 2, 5);
        x.say(0, 1, 3, 9);
        due("least", x.between(0, 0), 5);
        due("most", x.between(0, 1), 14);
        due("width", x.between(0, 2), 9);
        reckons(x, "(a-3)*(b-4)-c");
        x.say(0, 2, 1, 1);
        due("least", x.between(1, 0), -6);
        due("most", x.between(1, 1), 9);
        reckons(x, "f*f*f*9999");
        due("wraps", x.between(2, 1), Math.max(0, 999 * 999 * 999 * 9999));
        due("wraps", x.between(2, 0), Math.min(0, 999 * 999 * 999 * 9999));
        reckons(x, "(f=999)*(9999*9999*21+a*0)-9999*9999*21*(f=0)");
        due("a wide width", x.between(3, 2), 2L * 9999 * 9999 * 21);
        reckons(x, "a-b*0+(c-d*0)+(e-f)");
        due("all six named", x.between(4, 0), 2 + 1 - 999);
        due("all six named", x.between(4, 1), 5 + 1 + 999);
        due("what 3", x.between(0, 3), NO);
        due("what -1", x.between(0, -1), NO);
        due("text 5", x.between(5, 0), NO);
        due("text -1", x.between(-1, 0), NO);
        reckons(x, "d = 500");
        due("only the ends of spans", x.between(5, 1), 0);
        x.link(0, 1, 900, 900);
        due("can't be", x.between(0, 0), NO);
    }

    private static void inch() {
        promise = 19;
        BetweenThisAndThat x = fresh();
        due("the first law", x.inch(), 1);
        textOf(x, "reckons 1;costs a;meets 1;");
        textOf(x, "reckons 1;costs -a;meets 1;");
        textOf(x, "reckons 1;costs b+90;meets 1;");
        x.say(0, 0, 7, 90);
        x.force(1);
        due("the least of a", x.inch(), 7);
        x.force(2);
        due("0 at least", x.inch(), 0);
        x.force(3);
        x.say(0, 1, 9, 20);
        due("99", x.inch(), 99);
        x.say(0, 1, 10, 20);
        due("99 at most", x.inch(), 99);
        x.link(0, 1, 900, 900);
        due("can't be", x.inch(), -1);
    }

    private static void buyIs(BetweenThisAndThat x, int t, int coin, long digits, long width) {
        due("buy " + t + " " + coin + " 0", x.buy(t, coin, 0), digits);
        due("buy " + t + " " + coin + " 1", x.buy(t, coin, 1), width);
    }

    private static void buy() {
        promise = 20;
        BetweenThisAndThat x = fresh();
        x.say(0, 0, 10, 20);
        x.say(0, 1, 10, 13);
        x.say(0, 2, 5, 5);
        buyIs(x, 0, 0, 0, 13);
        buyIs(x, 0, 1, 1, 12);
        buyIs(x, 0, 3, 111, 10);
        buyIs(x, 0, 4, 1111, 9);
        buyIs(x, 0, 999, 1111, 9);
        textOf(x, "reckons a*b;costs 2;meets 1;");
        textOf(x, "reckons c*9-b*a;costs 0;meets 1;");
        // 10 .. 20 times 10 .. 13: of a an inch takes 13, of b 20
        buyIs(x, 1, 1, 2, 140);
        buyIs(x, 1, 2, 12, 128);
        x.force(1);
        buyIs(x, 1, 1, 0, 160);
        buyIs(x, 1, 3, 2, 140);
        // a 10 .. 19, b just 11; by 2222 b could not be
        buyIs(x, 1, 9, 1222, 19 * 11 - 10 * 11);
        x.force(2);
        buyIs(x, 2, 0, 1222, 99);
        // what inches cut, links cut on; and no quantity ends below its begin
        x = fresh();
        x.say(0, 0, 10, 11);
        x.say(0, 1, 5, 5);
        reckons(x, "a-b+c*0");
        buyIs(x, 1, 1, 1, 0);
        buyIs(x, 1, 2, 13, 0);
        reckons(x, "c*1");
        x.link(0, 2, 0, 0);
        buyIs(x, 2, 2, 13, 0);
        due("coin 1000", x.buy(0, 1000, 0), NO);
        due("coin -1", x.buy(0, -1, 0), NO);
        due("what 2", x.buy(0, 1, 2), NO);
        due("what -1", x.buy(0, 1, -1), NO);
        due("text 3", x.buy(3, 1, 0), NO);
        due("text -1", x.buy(-1, 1, 0), NO);
        x = fresh();
        for (int q = 0; q < 6; q++) {
            x.say(0, q, q, q);
        }
        buyIs(x, 0, 0, 0, 0);
        due("by no way", x.buy(0, 1, 0), NO);
        due("by no way", x.buy(0, 4, 1), NO);
        x.say(0, 0, 1, 1);
        due("can't be now", x.buy(0, 0, 0), NO);
    }

    private static void worth() {
        promise = 21;
        BetweenThisAndThat x = fresh();
        x.say(0, 0, 10, 20);
        x.say(0, 0, 12, 30);
        x.say(0, 1, 5, 9);
        x.say(0, 2, 5, 9);
        due("saying 0", x.worth(0, 0), 10);
        due("saying 1", x.worth(0, 1), 2);
        due("saying 2", x.worth(0, 2), 995);
        due("saying 3", x.worth(0, 3), 0);
        due("nothing changed", x.count(0), 4);
        reckons(x, "(a=999)+(a=20)");
        due("worth less", x.worth(1, 0), -1);
        reckons(x, "(a=20)*50");
        due("worth below 0", x.worth(2, 0), -50);
        due("saying 4", x.worth(0, 4), NO);
        due("saying -1", x.worth(0, -1), NO);
        due("text 3", x.worth(3, 0), NO);
        due("text -1", x.worth(-1, 0), NO);
        x.say(0, 0, 0, 0);
        due("can't be, with it", x.worth(0, 4), NO);
    }

    private static void exact() {
        promise = 22;
        BetweenThisAndThat x = fresh();
        x.say(0, 0, 10, 20);
        x.say(0, 1, 5, 9);
        due("within", x.exact(0, 0, 15), 4);
        due("whatever sayings tell", x.exact(0, 0, 500), 4);
        due("b", x.exact(0, 1, 999), 10);
        due("c", x.exact(0, 2, 0), 14);
        x.link(0, 1, -10, -8);
        due("a 16, b 6 .. 8", x.exact(0, 0, 16), 2);
        due("a can't be 20", x.exact(0, 0, 20), NO);
        due("a 19, b 9", x.exact(0, 0, 19), 0);
        x.say(0, 0, 30, 30);
        due("all can't be, but so", x.exact(0, 0, 16), 2);
        due("can't be so", x.exact(0, 1, 6), NO);
        due("v -1", x.exact(0, 0, -1), NO);
        due("v 1000", x.exact(0, 0, 1000), NO);
        due("q 6", x.exact(0, 6, 16), NO);
        due("q -1", x.exact(0, -1, 16), NO);
        due("text 1", x.exact(1, 0, 16), NO);
        due("text -1", x.exact(-1, 0, 16), NO);
    }

    private static void wagerIs(BetweenThisAndThat x, int v, long above, long below) {
        due("wager above", x.wager(1, v, 0), above);
        due("wager below", x.wager(1, v, 1), below);
    }

    private static void wager() {
        promise = 23;
        BetweenThisAndThat x = fresh();
        x.say(0, 1, 11, 20);
        wagerIs(x, 0, 0, 1);
        wagerIs(x, 10, 0, 1);
        wagerIs(x, 11, 1, 10);
        wagerIs(x, 12, 1, 5);
        wagerIs(x, 19, 9, 10);
        wagerIs(x, 20, 1, 1);
        wagerIs(x, 999, 1, 1);
        x.link(0, 1, 17, 999);
        wagerIs(x, 18, 1, 2);
        due("q 6", x.wager(6, 0, 0), NO);
        due("q -1", x.wager(-1, 0, 0), NO);
        due("v 1000", x.wager(0, 1000, 0), NO);
        due("v -1", x.wager(0, -1, 0), NO);
        due("part 2", x.wager(0, 0, 2), NO);
        due("part -1", x.wager(0, 0, -1), NO);
        x.say(0, 1, 21, 21);
        due("can't be", x.wager(0, 0, 0), NO);
    }

    private static void lessIs(BetweenThisAndThat x, int a, int b, long above, long below) {
        due("less above", x.less(a, b, 0), above);
        due("less below", x.less(a, b, 1), below);
    }

    private static void less() {
        promise = 24;
        BetweenThisAndThat x = fresh();
        lessIs(x, 4, 5, 999, 2000);
        x.say(0, 0, 1, 3);
        x.say(0, 1, 2, 5);
        x.say(0, 2, 3, 3);
        lessIs(x, 0, 1, 3, 4);
        lessIs(x, 1, 0, 1, 12);
        lessIs(x, 0, 2, 2, 3);
        lessIs(x, 2, 0, 0, 1);
        lessIs(x, 2, 3, 249, 250);
        x.link(0, 1, 1, 1);
        // spans count, each by itself: a 1 .. 3, b 2 .. 4
        lessIs(x, 0, 1, 2, 3);
        due("alike", x.less(0, 0, 0), NO);
        due("a 6", x.less(6, 0, 0), NO);
        due("a -1", x.less(-1, 0, 0), NO);
        due("b 6", x.less(0, 6, 0), NO);
        due("b -1", x.less(0, -1, 0), NO);
        due("part 2", x.less(0, 1, 2), NO);
        due("part -1", x.less(0, 1, -1), NO);
        x.say(0, 5, 0, 0);
        x.say(0, 5, 1, 1);
        due("can't be", x.less(0, 1, 0), NO);
    }

    private interface BySheet {
        long answer(BetweenThisAndThat x, int s);
    }

    private static void refusalsByTruth(BySheet call, long bad, long nothing) {
        BetweenThisAndThat x = fresh();
        due("sheet -1", call.answer(x, -1), bad);
        due("sheet 4", call.answer(x, 4), bad);
        due("missing", call.answer(x, 3), nothing);
        for (int size : new int[] {0, 5, 7, 40}) {
            x.sheet(3, 2, size);
            due("size " + size, call.answer(x, 3), bad);
        }
    }

    private static void lies() {
        promise = 25;
        BetweenThisAndThat x = fresh();
        x.say(0, 0, 10, 20);
        x.say(15, 0, 10, 20);
        x.say(0, 1, 10, 20);
        x.say(50, 2, 10, 20);
        x.say(30, 3, 10, 20);
        fill(x, 0, 0, 10, 20, 999, 10, 0, 0);
        due("bytes: 999 is -25", x.lies(0), 8);
        fill(x, 0, 1, 9, 20, 999, 24, 0, 0);
        due("lies", x.lies(0), 1 + 16);
        x.set(4);
        due("lies in year 4", x.lies(0), 1);
        fill(x, 1, 2, 26, 21, MOST, LEAST, 0, 0);
        due("lies", x.lies(1), 1 + 2 + 4 + 8 + 16);
        x.say(0, 0, 400, 400);
        due("ALL need not be", x.lies(0), 1 + 32);
        refusalsByTruth((y, s) -> y.lies(s), -2, -11);
    }

    private static void breaks() {
        promise = 26;
        BetweenThisAndThat x = fresh();
        x.link(0, 1, -5, 5);
        x.link(1, 0, -5, 5);
        x.link(2, 3, 1, 1);
        fill(x, 0, 2, 10, 15, 1, 2, 0, 0);
        due("hold", x.breaks(0), 0);
        fill(x, 0, 2, 10, 16, 2, 1, 0, 0);
        due("break", x.breaks(0), 7);
        fill(x, 0, 2, LEAST, MOST, LEAST, LEAST + 1, 0, 0);
        due("as longs", x.breaks(0), 3);
        fill(x, 0, 2, 0, 0, MOST, LEAST, 0, 0);
        due("as longs: 1 more, if it wrapped", x.breaks(0), 4);
        refusalsByTruth((y, s) -> y.breaks(s), -2, -11);
    }

    private static void judge() {
        promise = 27;
        BetweenThisAndThat x = fresh();
        x.say(0, 0, 10, 20);
        x.link(0, 1, 5, 5);
        fill(x, 0, 2, 10, 25, 0, 999, 0, 0);
        due("each by itself", x.judge(0), -1);
        x.cell(0, 5, 1000);
        due("f", x.judge(0), 5);
        x.cell(0, 1, 26);
        due("b", x.judge(0), 1);
        x.cell(0, 0, 9);
        due("a", x.judge(0), 0);
        refusalsByTruth((y, s) -> y.judge(s), -2, -11);
        x.say(0, 0, 0, 0);
        due("can't be", x.judge(0), -9);
        due("-11 ahead of -9", x.judge(1), -11);
        x.sheet(1, 0, 5);
        due("BAD ahead of -9", x.judge(1), -2);
    }

    private static void reckon() {
        promise = 28;
        BetweenThisAndThat x = fresh();
        fill(x, 2, 1, 5, -9, 0, 0, 0, 40000);
        due("a + b", x.reckon(2, 0), -4);
        reckons(x, "f");
        due("a short", x.reckon(2, 1), (short) 40000);
        fill(x, 0, 2, MOST, 1, 0, 0, 0, 0);
        due("wraps", x.reckon(0, 0), LEAST);
        due("text 2", x.reckon(0, 2), NO);
        due("text -1", x.reckon(0, -1), NO);
        refusalsByTruth((y, s) -> y.reckon(s, 0), NO, NO);
        x.say(0, 0, 0, 0);
        x.say(0, 0, 1, 1);
        due("ALL need not be", x.reckon(0, 0), LEAST);
    }

    private static void laws() {
        promise = 29;
        BetweenThisAndThat x = fresh();
        textOf(x, "reckons 0;costs 0;meets a<b;");
        textOf(x, "reckons 1;costs 1;meets c;");
        textOf(x, "reckons 1;costs 1;meets a-5;");
        fill(x, 0, 0, 5, 6, 0, 0, 0, 0);
        due("laws", x.laws(0), 1 + 2);
        fill(x, 0, 0, 6, 6, -1, 0, 0, 0);
        due("laws", x.laws(0), 1 + 4 + 8);
        refusalsByTruth((y, s) -> y.laws(s), -2, -11);
    }

    private static void film() {
        promise = 30;
        BetweenThisAndThat x = fresh();
        x.say(0, 0, 10, 20);
        x.say(0, 1, 300, 500);
        due("film least", x.film(0, 0), 6);
        due("judge", x.judge(0), -1);
        due("a + b", x.reckon(0, 0), 310);
        due("film most", x.film(0, 1), 6);
        due("a + b", x.reckon(0, 0), 520);
        x.sheet(1, 0, 3);
        due("over another sort", x.film(1, 1), 6);
        due("ints", x.copy(0, 0, 1, 0, 6), 6);
        due("six", x.cell(1, 6, 0), -12);
        due("sheet 4", x.film(4, 0), -2);
        due("sheet -1", x.film(-1, 2), -2);
        due("high 2", x.film(0, 2), -7);
        due("high -1", x.film(0, -1), -7);
        x.say(0, 0, 0, 0);
        due("can't be", x.film(2, 0), -9);
        due("what it was", x.cell(2, 0, 0), -11);
        due("-7 ahead of -9", x.film(2, 2), -7);
    }

    private static void drawn() {
        promise = 31;
        BetweenThisAndThat x = fresh();
        long lot = 8;
        for (int q = 0; q < 6; q++) {
            lot = lot * 48271 % 2147483647;
            due("drawn", x.drawn(7, q), lot % 1000);
        }
        x.say(0, 0, 10, 12);
        x.say(0, 1, 10, 10);
        x.link(0, 2, 0, 0);
        lot = 100000L * 48271 % 2147483647;
        due("a of seed 99999", x.drawn(99999, 0), 10 + lot % 3);
        lot = lot * 48271 % 2147483647;
        due("b", x.drawn(99999, 1), 10);
        lot = lot * 48271 % 2147483647;
        due("c: links don't matter any more", x.drawn(99999, 2), 10 + lot % 3);
        due("met", x.drawn(0, 6), 1);
        textOf(x, "reckons 0;costs 0;meets a=11;");
        x.force(1);
        // 48271 modulo 3 is 1
        due("a of seed 0", x.drawn(0, 0), 11);
        due("met", x.drawn(0, 6), 1);
        due("a of seed 1", x.drawn(1, 0), 12);
        due("not met", x.drawn(1, 6), 0);
        due("seed -1", x.drawn(-1, 0), -2);
        due("seed 100000", x.drawn(100000, 0), -2);
        due("what 7", x.drawn(0, 7), -2);
        due("what -1", x.drawn(0, -1), -2);
        x.say(0, 0, 0, 0);
        due("can't be", x.drawn(0, 0), -1);
        due("BAD ahead of -1", x.drawn(0, 7), -2);
    }

    private static void odds() {
        promise = 32;
        BetweenThisAndThat x = fresh();
        textOf(x, "reckons 0;costs 0;meets a=11;");
        x.say(0, 0, 10, 12);
        due("the first law", x.odds(0, 40, 0), 1);
        due("the first law", x.odds(0, 40, 1), 1);
        x.force(1);
        // a is 11 for seeds 0, 3, 6, ..
        due("3 of 6", x.odds(0, 6, 0), 1);
        due("3 of 6", x.odds(0, 6, 1), 3);
        due("1 of 4", x.odds(1, 4, 0), 1);
        due("1 of 4", x.odds(1, 4, 1), 4);
        due("1 of 1", x.odds(0, 1, 0), 1);
        due("1 of 1", x.odds(0, 1, 1), 1);
        due("0 of 1", x.odds(1, 1, 0), 0);
        due("0 of 2", x.odds(1, 2, 0), 0);
        due("0 of 2", x.odds(1, 2, 1), 1);
        due("14 of 40", x.odds(0, 40, 0), 7);
        due("14 of 40", x.odds(0, 40, 1), 20);
        int met = 0;
        for (long seed = 99999; seed < 99999 + 40; seed++) {
            met += (seed + 1) * 48271 % 2147483647 % 3 == 1 ? 1 : 0;
        }
        due("past 99999", x.odds(99999, 40, 0) * 40, met * x.odds(99999, 40, 1));
        due("seeds 0", x.odds(0, 0, 0), NO);
        due("seeds 41", x.odds(0, 41, 0), NO);
        due("seed -1", x.odds(-1, 1, 0), NO);
        due("seed 100000", x.odds(100000, 1, 0), NO);
        due("part 2", x.odds(0, 1, 2), NO);
        due("part -1", x.odds(0, 1, -1), NO);
        x.say(0, 0, 0, 0);
        due("can't be", x.odds(0, 1, 0), NO);
    }

    private static void image() {
        promise = 33;
        BetweenThisAndThat x = fresh();
        due("of nothing", x.image(), 0);
        x.say(0, 0, 1, 2);
        x.say(0, 0, 1, 2);
        due("of two", x.image(), 2);
        x.unsay();
        due("of one, over the last", x.image(), 1);
        x.unsay();
        due("back", x.back(), 1);
    }

    private static void back() {
        promise = 34;
        BetweenThisAndThat x = fresh();
        due("no image", x.back(), -3);
        reckons(x, "a");
        reckons(x, "b");
        x.say(13, 1, 10, 20);
        x.say(24, 2, 30, 40);
        x.link(0, 1, 5, 6);
        x.set(9);
        x.force(1);
        x.image();
        x.unsay();
        x.unsay();
        x.say(55, 5, 50, 60);
        x.say(46, 4, 70, 80);
        x.say(0, 0, 1, 1);
        x.link(1, 2, 7, 8);
        x.set(50);
        x.force(2);
        reckons(x, "c");
        feedAll(x, "xy");
        x.sheet(0, 2, 2);
        for (int times = 0; times < 2; times++) {
            due("back", x.back(), 2);
            int[] counts = {2, 1, 9, 4, 1, 2};
            for (int what = 0; what < 6; what++) {
                due("count(" + what + ")", x.count(what), counts[what]);
            }
            int[][] told = {{1, 1, 10, 20, 3}, {2, 2, 30, 40, 4}};
            for (int s = 0; s < 2; s++) {
                for (int what = 0; what < 5; what++) {
                    due("told", x.told(s, what), told[s][what]);
                }
            }
            due("link 0", x.linkTold(0, 2), 5);
            due("link 1", x.linkTold(1, 0), -5);
            due("sheets stay", x.cell(0, 1, 1), 1);
            x.set(3);
            x.say(0, 3, 3, 3);
            x.link(4, 5, 4, 5);
        }
        due("a link anew", x.linkTold(1, 0), 4);
    }

    private static void sheet() {
        promise = 35;
        BetweenThisAndThat x = fresh();
        for (int sort = 0; sort < 3; sort++) {
            due("sheet of 40", x.sheet(sort, sort, 40), 1);
            due("last cell", x.cell(sort, 39, 1), 1);
            due("behind it", x.cell(sort, 40, 1), -12);
            due("sheet of 0", x.sheet(sort, sort, 0), 1);
            due("no cell", x.cell(sort, 0, 1), -12);
            due("41", x.sheet(sort, sort, 41), -2);
            due("-1", x.sheet(sort, sort, -1), -14);
            due("least", x.sheet(sort, sort, LEAST), -14);
            due("most", x.sheet(sort, sort, MOST), -2);
        }
        fill(x, 0, 2, 1, 2, 3, 4, 5, 6);
        x.sheet(0, 2, 6);
        due("all 0", x.reckon(0, 0), 0);
        due("missing, n 41", x.sheet(0, -1, 41), 1);
        due("is missing", x.cell(0, 0, 0), -11);
        due("missing, n -1", x.sheet(1, -1, -1), 1);
        due("sort 3", x.sheet(0, 3, 0), -2);
        due("sort -2", x.sheet(0, -2, 0), -2);
        due("sheet 4", x.sheet(4, 0, 0), -2);
        due("sheet -1", x.sheet(-1, 0, -1), -2);
        due("BAD sort ahead of -14", x.sheet(0, 3, -1), -2);
    }

    private static void cell() {
        promise = 36;
        BetweenThisAndThat x = fresh();
        int[] values = {0, 127, 128, 255, 256, -1, 32767, 32768, 65536, MOST, LEAST};
        for (int v : values) {
            for (int sort = 0; sort < 3; sort++) {
                x.sheet(0, sort, 6);
                due("cell", x.cell(0, 0, v), 1);
                due("sort " + sort + " " + v, x.reckon(0, 0), sort == 0 ? (byte) v : sort == 1 ? (short) v : v);
            }
        }
        due("cell 6", x.cell(0, 6, 0), -12);
        due("cell -1", x.cell(0, -1, 0), -12);
        due("cell least", x.cell(0, LEAST, 0), -12);
        due("cell most", x.cell(0, MOST, 0), -12);
        due("missing", x.cell(1, -1, 0), -11);
        due("sheet 4", x.cell(4, -1, 0), -2);
        due("sheet -1", x.cell(-1, 0, 0), -2);
    }

    private static void sheetIs(BetweenThisAndThat x, int s, int... cells) {
        String[] names = {"a", "b", "c", "d", "e", "f"};
        for (int q = 0; q < cells.length; q++) {
            x.copy(s, q, 3, 0, 1);
            due("cell " + names[q], x.reckon(3, 0), cells[q]);
        }
    }

    private static void copy() {
        promise = 37;
        BetweenThisAndThat x = fresh();
        x.sheet(3, 2, 6);
        fill(x, 0, 2, 1, 2, 3, 4, 5, 6);
        due("to the right", x.copy(0, 0, 0, 1, 5), 5);
        sheetIs(x, 0, 1, 1, 2, 3, 4, 5);
        due("to the left", x.copy(0, 2, 0, 0, 4), 4);
        sheetIs(x, 0, 2, 3, 4, 5, 4, 5);
        fill(x, 1, 2, 9, 9, 9, 9);
        due("to another one", x.copy(0, 1, 1, 2, 2), 2);
        sheetIs(x, 1, 9, 9, 3, 4);
        due("none", x.copy(0, 6, 1, 4, 0), 0);
        due("behind the end", x.copy(0, 7, 1, 4, 0), -12);
        due("behind the other end", x.copy(0, 6, 1, 5, 0), -12);
        due("too many", x.copy(0, 2, 1, 0, 5), -12);
        due("too many there", x.copy(0, 0, 1, 1, 4), -12);
        due("n -1", x.copy(0, 0, 1, 0, -1), -12);
        due("i -1", x.copy(0, -1, 1, 0, 1), -12);
        due("j -1", x.copy(0, 0, 1, -1, 1), -12);
        due("most", x.copy(0, MOST, 1, MOST, MOST), -12);
        due("wrapping", x.copy(0, 1, 1, 1, MOST), -12);
        due("least", x.copy(0, LEAST, 1, LEAST, LEAST), -12);
        sheetIs(x, 1, 9, 9, 3, 4);
        fill(x, 1, 1, 9, 9, 9, 9);
        due("unlike sorts, ahead of -12", x.copy(0, -1, 1, 0, 1), -13);
        due("unlike sorts, n 0", x.copy(1, 0, 0, 0, 0), -13);
        due("missing source", x.copy(2, 0, 0, -1, 0), -11);
        due("missing goal", x.copy(0, 0, 2, -1, 0), -11);
        due("sheet 4", x.copy(4, 0, 2, 0, 0), -2);
        due("sheet -1", x.copy(2, 0, -1, 0, 0), -2);
    }

    private static void sayingsBy() {
        promise = 38;
        BetweenThisAndThat x = fresh();
        fill(x, 0, 2, 7, 13, 2, 10, 20, 60, 0, 0, 0, 24, 5, 7, 999, 1, 1);
        due("two of three", x.sayingsBy(0, 2, 1, 3), 2);
        int[][] told = {{1, 2, 10, 20, 3}, {2, 5, 7, 999, 4}};
        for (int s = 0; s < 2; s++) {
            for (int what = 0; what < 5; what++) {
                due("told", x.told(s, what), told[s][what]);
            }
        }
        due("what stood ahead came", x.sayingsBy(0, 2, 1, 4), -12);
        due("sayings", x.count(0), 4);
        due("the last is outside by one", x.sayingsBy(0, 2, 8, 2), -12);
        due("sayings", x.count(0), 4);
        due("none", x.sayingsBy(0, 2, 15, 0), 0);
        due("place -1", x.sayingsBy(0, 2, -1, 1), -12);
        due("place least", x.sayingsBy(0, 2, LEAST, 10), -12);
        due("place most", x.sayingsBy(0, 2, MOST, 10), -12);
        due("place most - 3", x.sayingsBy(0, 2, MOST - 3, 1), -12);
        due("n 11", x.sayingsBy(0, 2, 0, 11), -2);
        due("n -1", x.sayingsBy(0, 2, 0, -1), -2);
        due("sort 3", x.sayingsBy(0, 3, 0, 1), -2);
        due("sort -1", x.sayingsBy(0, -1, 0, 1), -2);
        due("sheet 4", x.sayingsBy(4, 2, 0, 1), -2);
        due("sheet -1", x.sayingsBy(-1, 2, 0, 1), -2);
        due("missing", x.sayingsBy(1, 2, -1, 1), -11);
        due("another sort", x.sayingsBy(0, 1, -1, 1), -13);
        x = fresh();
        x.sheet(0, 0, 40);
        due("ten", x.sayingsBy(0, 0, 0, 10), 10);
        due("FULL ones are left out", x.sayingsBy(0, 0, 0, 10), 0);
        x.unsay();
        due("one has room", x.sayingsBy(0, 0, 36, 1), 1);
        x.sheet(1, 1, 8);
        x.unsay();
        due("shorts", x.sayingsBy(1, 1, 4, 1), 1);
    }

    private static void taken() {
        promise = 39;
        BetweenThisAndThat x = fresh();
        boolean[][] is = {
            {true, false, false, false, false, false},
            {true, true, false, false, false, false},
            {true, false, true, false, false, false},
            {true, true, false, true, false, false},
            {true, false, true, false, true, false},
            {true, false, false, false, false, true},
        };
        for (int kind = 0; kind < 6; kind++) {
            x.say(10 * kind + 4, 0, 0, 9);
        }
        x.link(0, 1, -999, 999);
        x.link(0, 1, 4, 4);
        for (int s = 0; s < 6; s++) {
            for (int kind = 0; kind < 6; kind++) {
                due("taken " + s + " for " + kind, x.taken(s, kind), is[s][kind] ? s : -13);
            }
            due("taken for a link", x.taken(s, 6), -13);
        }
        due("link 0", x.taken(10, 6), 1998);
        due("link 1", x.taken(11, 6), 0);
        for (int kind = 0; kind < 6; kind++) {
            due("a link for a saying", x.taken(11, kind), -13);
        }
        due("no saying", x.taken(6, 6), -11);
        due("no saying", x.taken(9, 0), -11);
        due("no link", x.taken(12, 0), -11);
        due("no link", x.taken(17, 6), -11);
        due("place 18", x.taken(18, 6), -12);
        due("place -1", x.taken(-1, 0), -12);
        due("place most", x.taken(MOST, 0), -12);
        due("kind 7", x.taken(18, 7), -2);
        due("kind -1", x.taken(0, -1), -2);
    }
}
