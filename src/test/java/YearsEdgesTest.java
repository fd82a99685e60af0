/** The edges that promises 47 to 53 name; each test bears the words that it holds to. */
public final class YearsEdgesTest {
    private static final Check check = new Check();

    public static void main(String[] args) {
        rests();
        restsOthers();
        law();
        lawFaults();
        years();
        draws();
        drawnYears();
        yearsLimits();
        keep();
        again();
        count();
        row();
        questions();
        check.end();
    }

    /** What one has who watches so long, the other one so long. */
    private static int worth(int v, int cost, int own, int other) {
        int night = own + other >= 9 ? v : v / 2;
        return night - cost * own;
    }

    private static boolean moves(int v, int cost, int own, int other) {
        for (int hours = 0; hours <= 9; hours++) {
            if (worth(v, cost, hours, other) > worth(v, cost, own, other)) {
                return true;
            }
        }
        return false;
    }

    private static void rests() {
        for (int v = 0; v <= 20; v++) {
            for (int a = 0; a <= 5; a++) {
                for (int b = 0; b <= 5; b++) {
                    int many = 0;
                    int least = -1;
                    for (int pair = 99; pair >= 0; pair--) {
                        if (!moves(v, a, pair / 10, pair % 10) && !moves(v, b, pair % 10, pair / 10)) {
                            many++;
                            least = pair;
                        }
                    }
                    HeldInTrust x = new HeldInTrust();
                    String words = "rests(" + v + ", " + a + ", " + b + ")";
                    check.due(words, x.rests(v, a, b), many);
                    check.row(words + ": the least", x, least / 10, least % 10);
                }
            }
        }
        HeldInTrust x = new HeldInTrust();
        // half of 1 is 0: 1 is to be won, for which one hour alone is not too much
        check.due("half (cut): of 1", x.rests(1, 1, 1), 1);
        check.row("half (cut): of 1: nobody watches", x, 0, 0);
        // half of 3 is 1: 2 are to be won; who watches for nothing has 8 or 9 hours, or 7 with 2 of the other one
        check.due("half (cut): of 3", x.rests(3, 1, 0), 3);
        check.row("half (cut): of 3", x, 0, 9);
        check.due("both together are 9 or more: 9 itself", x.rests(20, 1, 1), 10);
        check.row("both together are 9 or more: 0 and 9", x, 0, 9);
    }

    private static void restsOthers() {
        int[][] others = {{-1, 1, 1}, {21, 1, 1}, {1, -1, 1}, {1, 6, 1}, {1, 1, -1}, {1, 1, 6},
            {Integer.MIN_VALUE, 1, 1}, {1, Integer.MAX_VALUE, 1}};
        for (int[] o : others) {
            check.unchanged("NONE: others: " + o[0] + " " + o[1] + " " + o[2], -1, y -> y.rests(o[0], o[1], o[2]));
        }
    }

    private static void law() {
        HeldInTrust x = Check.made("9", "o93");
        Check.rule(x, "4");
        check.due("by it, less that by THE RULE: as much", Check.law(x, "4"), 0);
        check.row("both, by it first", x, 100, 100);
        check.due("more", Check.law(x, "0"), 80);
        check.row("more", x, 180, 100);
        check.due("(below 0, too): -1", Check.law(x, "4+(n=1)*(h<5)"), -1);
        check.row("(below 0, too): -1", x, 99, 100);
        check.due("(below 0, too)", Check.law(x, "9"), -100);
        check.row("(below 0, too)", x, 0, 100);
        check.due("(an empty one: none): v-k-h/10", Check.law(x, ""), Check.law(x, "v-k-h/10"));
        Check.rule(x, "");
        check.due("THE RULE is none, too", Check.law(x, ""), 0);
        check.due("nothing being done", x.count(2) + x.count(3) + x.count(8), 0);
        x = Stands.book(9900);
        check.due("BOOK in 20 NIGHTS: 9999 at most", Check.law(x, ""), 0);
        check.row("BOOK in 20 NIGHTS: 9999 at most", x, 9999, 9999);
        Check.hearers(x, "o91");
        Check.rule(x, "9");
        check.due("BOOK in 20 NIGHTS: 9999 at most, less 9900", Check.law(x, "0"), 99);
        check.row("BOOK in 20 NIGHTS: 9999 at most, less 9900", x, 9999, 9900);
        x = Check.made("1", "");
        check.due("20 NIGHTS", Check.law(x, ""), 0);
        check.row("20 NIGHTS", x, 20, 20);
        x = Check.made("5", "o11");
        Check.law(x, "0");
        check.due("THE RULE stays", x.hearer(0, 6), 1);
    }

    private static void lawFaults() {
        check.fault("-10000 - p: 0", -10000, "x", HeldInTrust::law);
        check.fault("-10000 - p: 1", -10001, "vx", HeldInTrust::law);
        check.fault("-10000 - p: its end", -10002, "v+", HeldInTrust::law);
        check.fault("-10000 - p: its end", -10001, "(", HeldInTrust::law);
        check.fault("-10000 - p: the fifth bracket", -10004, "(((((v", HeldInTrust::law);
        check.fault("-10000 - p: the fourth digit", -10003, "1000", HeldInTrust::law);
        check.fault("-10000 - p: the second comparison", -10003, "v<k<h", HeldInTrust::law);
        String most = "v" + "+0".repeat(18) + "+12";
        check.fault("(as rule()): 40", -10040, most + "+", HeldInTrust::law);
        check.fault("(as rule()): 40", -10040, most + "x", HeldInTrust::law);
        check.due("(as rule()): 40 signs can stand", Check.law(new HeldInTrust(), most), 0);
    }

    /** R of a seed behind so many draws, without sign. */
    private static long drawn(int seed, int draws) {
        long r = seed & 0xffffffffL;
        for (int i = 0; i < draws; i++) {
            r = (r * 1103515245L + 12345L) & 0xffffffffL;
        }
        return r;
    }

    private static long drawn(int seed, int draws, int of) {
        return drawn(seed, draws) / 65536 % of;
    }

    private static void years() {
        HeldInTrust x = Check.made("9", "");
        check.due("n 1", x.years(0, 1), 9);
        check.row("MONEY, HEARD of all together then", x, 20, 0);
        check.unchanged("NONE: another n: 0", -1, y -> y.years(7, 0));
        check.unchanged("NONE: another n: 61", -1, y -> y.years(7, 61));
        check.unchanged("NONE: another n: -1", -1, y -> y.years(7, -1));
        check.unchanged("NONE: another n: the least", -1, y -> y.years(7, Integer.MIN_VALUE));
        check.unchanged("NONE: another n: the greatest", -1, y -> y.years(7, Integer.MAX_VALUE));
        int[] seeds = {0, 1, -1, 12345, Integer.MAX_VALUE, Integer.MIN_VALUE, 65536, 0x7fff0000, 0x80000001};
        for (int seed : seeds) {
            x = Check.made("9", "");
            int nights = 0;
            for (int i = 1; i <= 60; i++) {
                nights += drawn(seed, i, 4) < 2 ? 1 : 0;
                // a DRAW of 2 or 3 without HEARERS draws no more
                check.due("2, 3: nothing, no DRAWS more, without HEARERS: seed " + seed + ", n " + i, x.years(seed, i), 9 * nights);
            }
        }
    }

    /** The first seed from 0 on whose first DRAW of 4 is so. */
    private static int seedOf(int kind) {
        for (int seed = 0; seed < 100000; seed++) {
            if (drawn(seed, 1, 4) == kind) {
                return seed;
            }
        }
        return -1;
    }

    private static HeldInTrust square() {
        HeldInTrust x = Check.made("9", "o93;l95;c97");
        Check.rule(x, "1");
        return x;
    }

    private static void draws() {
        HeldInTrust x = square();
        check.due("0: a NIGHT", x.years(seedOf(0), 1), 6);
        check.row("0: a NIGHT", x, 20 + 15, 3);
        check.due("1: a NIGHT", x.years(seedOf(1), 1), 6);
        check.row("1: a NIGHT", x, 20 + 15, 3);
        check.due("2: one who goes, or comes: no NIGHT", x.years(seedOf(2), 1), 0);
        check.row("2: one who goes, or comes", x, 20, 0);
        check.due("3: it can't hum of an empty BOOK", x.years(seedOf(3), 1), 0);
        check.row("3: it can't hum of an empty BOOK", x, 20, 0);
        int seed = seedOf(3);
        int hums = (int) drawn(seed, 3, 9) + 1;
        int who = (int) drawn(seed, 2, 3);
        x.nights(3);
        int money = x.count(4);
        check.due("3: a DRAW of 9, and 1, how much it hums", x.years(seed, 1), 18 - hums);
        check.row("3: MONEY is 2 times PAY for each more", x, money + 2 * hums * (3 + 2 * who), 9 + hums);
        // a hum that can't be still has drawn how much: the next DRAW is the fourth
        for (int s = 0; s < 4000; s++) {
            boolean humFirst = drawn(s, 1, 4) == 3;
            if (humFirst && drawn(s, 4, 4) < 2 != drawn(s, 3, 4) < 2) {
                HeldInTrust y = square();
                check.due("if it can: what was drawn is drawn: seed " + s, y.years(s, 2), drawn(s, 4, 4) < 2 ? 6 : 0);
            }
        }
        // the lowest of 32 bits are not in it, the highest one is
        for (int s = 0; s < 300; s++) {
            int one = s * 7919 * 65536 + s;
            HeldInTrust y = Check.made("9", "");
            check.due("(R without sign, by 65536) % n: seed " + one, y.years(one, 1), drawn(one, 1, 4) < 2 ? 9 : 0);
        }
    }

    /** Years done by hand on another object: one, three and eight HEARERS, a full BOOK and an empty one. */
    private static void drawnYears() {
        String[] lines = {"o93", "o93;l95;c97", "o11;o12;o13;o14;o15;o16;o17;o18"};
        for (String line : lines) {
            for (int nights = 0; nights <= 60; nights += 30) {
                for (int seed = -30; seed <= 30; seed++) {
                    HeldInTrust x = Check.made("904", line);
                    x.nights(nights);
                    HeldInTrust twin = Check.made("904", line);
                    twin.nights(nights);
                    int n = 1 + (seed + 30);
                    if (n <= 60) {
                        live(twin, seed * 104729, n);
                        String words = "years(" + seed * 104729 + ", " + n + ") of " + line;
                        check.due(words, x.years(seed * 104729, n), twin.count(3));
                        check.row(words, x, twin.count(4), twin.count(8));
                    }
                }
            }
        }
    }

    private static void live(HeldInTrust x, int seed, int n) {
        int draws = 0;
        for (int i = 0; i < n; i++) {
            long kind = drawn(seed, ++draws, 4);
            if (kind < 2) {
                x.nights(1);
            } else {
                int who = (int) drawn(seed, ++draws, x.count(1));
                if (kind == 2) {
                    x.comes(who);
                } else {
                    x.hum(who, (int) drawn(seed, ++draws, 9) + 1);
                }
            }
        }
    }

    private static void yearsLimits() {
        HeldInTrust x = Stands.book(9995);
        check.due("BOOK then: 9999 at most", x.years(0, 60), 9999);
        check.due("Questions change nothing: BOOK", x.count(3), 9995);
        x = Stands.money(9999);
        x.years(5, 60);
        check.due("MONEY then: 9999 at most", x.row(0), 9999);
        check.unchanged("Questions change nothing: years()", 1, y -> {
            y.years(77, 60);
            return y.tonight() == 5 ? 1 : 0;
        });
    }

    private static void keep() {
        HeldInTrust x = Check.made("9", "o11");
        check.due("keep(0)", x.keep(0), true);
        check.due("keep(1)", x.keep(1), true);
        x.nights(1);
        check.due("kept anew", x.keep(0), true);
        x.nights(1);
        check.due("again(0)", x.again(0), true);
        check.due("again(0): as it was kept anew", x.count(2), 1);
        check.due("again(1)", x.again(1), true);
        check.due("again(1): the other one stays", x.count(2), 0);
        check.due("without HEARERS", new HeldInTrust().keep(1), true);
        int[] others = {-1, 2, Integer.MIN_VALUE, Integer.MAX_VALUE};
        for (int i : others) {
            check.unchanged("keep: Refused: others: " + i, 0, y -> y.keep(i) ? 1 : 0);
            check.unchanged("again: Refused: others: " + i, 0, y -> y.again(i) ? 1 : 0);
        }
    }

    private static void again() {
        check.unchanged("Refused: nothing kept", 0, y -> y.again(1) ? 1 : 0);
        check.unchanged("Refused: HEARERS came since", 0, y -> Check.hearers(ended(y), "o11"), y -> y.again(0) ? 1 : 0);
        HeldInTrust x = Check.made("9", "o11");
        check.due("Refused: nothing kept: a new object", x.again(0), false);
        x.keep(0);
        Check.hearers(x, "");
        check.due("an empty hearers(): none came", x.again(0), true);
        Check.hearers(x, "o1");
        check.due("a refused hearers(): none came", x.again(0), true);
        x.comes(0);
        x.comes(0);
        check.due("one who goes, and comes, was there", x.again(0), true);
        Check.hearers(x, "o11");
        check.due("HEARERS came since", x.again(0), false);
        check.due("HEARERS came since: kept anew", x.keep(0), true);
        check.due("HEARERS came since: kept anew", x.again(0), true);
        x = new HeldInTrust();
        x.keep(0);
        Check.hearers(x, "o11");
        check.due("HEARERS came since: the first ones", x.again(0), false);
        x = Check.made("9", "o12;l33");
        x.gain(-4);
        x.stake(6);
        x.nights(8);
        x.hum(1, 3);
        x.comes(0);
        x.keep(1);
        int[] were = new int[10];
        for (int what = 0; what < 10; what++) {
            were[what] = x.count(what);
        }
        Check.spring(x, "c0c1n9h09s2");
        x.gain(2);
        x.sheet(3, 0, 0, 0);
        check.due("It is as it was kept", x.again(1), true);
        for (int what = 0; what < 10; what++) {
            check.due("What undo() brings back: count(" + what + ")", x.count(what), were[what]);
        }
        Check.songs(x, "12");
        Check.rule(x, "0");
        x.look(1, 1);
        x.again(1);
        check.due("SONGS are not kept", x.count(0), 2);
        check.due("THE RULE is not kept", x.hearer(0, 6), 0);
        check.due("looks are not kept", x.count(10), 1);
    }

    private static HeldInTrust ended(HeldInTrust x) {
        x.end(0);
        return x;
    }

    private static void count() {
        int[] others = {-1, 15, 16, Integer.MIN_VALUE, Integer.MAX_VALUE};
        for (int what : others) {
            check.unchanged("NONE for another what: " + what, -1, y -> y.count(what));
        }
        HeldInTrust x = Check.made("1234567890123456", "o11;o11;o11;o11;o11;o11;o11;o11");
        check.due("0: SONGS", x.count(0), 16);
        check.due("1: HEARERS", x.count(1), 8);
        check.due("7: PRESENT (bits)", x.count(7), 255);
        x.sheet(2, 8, 99, 0);
        check.due("8: HEARD of all", x.count(8), 792);
        x.gain(-5);
        check.due("6: 10 and GAIN", x.count(6), 5);
        x.gain(5);
        check.due("6: 10 and GAIN", x.count(6), 15);
        x.awards(0);
        check.due("13: numbers of the ROW: the most", x.count(13), 9);
        for (int i = 0; i < 20; i++) {
            x.sign(0);
        }
        check.due("14: signs of THE TEXT: the most", x.count(14), 80);
    }

    private static void row() {
        HeldInTrust x = new HeldInTrust();
        int[] others = {0, 1, -1, 9, Integer.MIN_VALUE, Integer.MAX_VALUE};
        for (int i : others) {
            check.noRow(x, i);
        }
        x.tonight();
        check.due("Number 0 of the ROW", x.row(0), 0);
        check.due("Number 1 of the ROW", x.row(1), 0);
        check.noRow(x, 2);
        check.noRow(x, -1);
        x.fits();
        check.due("Number 0 of the ROW", x.row(0), 0);
        check.noRow(x, 1);
        x.order();
        check.noRow(x, 0);
        x = Check.made("9", "o11;o11;o11;o11;o11;o11;o11;o11");
        x.awards(7);
        check.due("Number 8 of the ROW", x.row(8), 7);
        check.noRow(x, 9);
        Check.songs(x, "9");
        x.sings(10, 90, 1);
        check.due("a number above ints", x.row(1), 10000000000L);
        check.unchanged("NoSuchElementException changes nothing", 1, y -> Stands.throwsNone(y, z -> z.row(2)) ? 1 : 0);
        check.unchanged("NoSuchElementException changes nothing", 1, y -> Stands.throwsNone(y, z -> z.row(-1)) ? 1 : 0);
    }

    /** "Questions change nothing": of a question only the ROW stays, and tonight() tells it anew. */
    private static void question(String words, Stands.Call call) {
        check.unchanged("Questions change nothing: " + words, 5, y -> {
            call.on(y);
            return y.tonight();
        });
    }

    private static void questions() {
        question("hearer()", y -> y.hearer(1, 6));
        question("worth()", y -> y.worth(50));
        question("tonight()", HeldInTrust::tonight);
        question("later()", y -> y.later(99));
        question("enough()", y -> y.enough(40));
        question("enough(), -2", y -> y.enough(9999));
        question("drains()", HeldInTrust::drains);
        question("hears()", y -> y.hears(0, 60));
        question("hears(), -2", y -> y.hears(1, 99));
        question("quiet()", y -> y.quiet(60));
        question("admits()", y -> y.admits(1));
        question("plans()", y -> y.plans(1));
        question("fills()", HeldInTrust::fills);
        question("order()", HeldInTrust::order);
        question("raises()", y -> y.raises(163));
        question("grows()", y -> y.grows(500, 30));
        question("adds()", y -> y.adds(37));
        question("nearest()", y -> y.nearest(40));
        question("awards()", y -> y.awards(70));
        question("envy()", HeldInTrust::envy);
        question("bold()", y -> y.bold(5, 17, 8, 4));
        question("notes()", y -> y.notes(60, 9, 4));
        question("laws()", HeldInTrust::laws);
        question("sure()", HeldInTrust::sure);
        question("tries()", HeldInTrust::tries);
        question("sings()", y -> y.sings(10, 20, 3));
        question("counts()", y -> y.counts(10, 20, 3));
        question("fits()", HeldInTrust::fits);
        question("ask()", HeldInTrust::ask);
        question("rests()", y -> y.rests(20, 1, 2));
        question("years()", y -> y.years(-5, 60));
        check.unchanged("Questions change nothing: law()", 5, y -> y.end(0), y -> {
            Check.law(y, "9-h/2");
            return y.tonight();
        });
        question("count()", y -> y.count(8));
        question("row()", y -> y.row(1));
    }
}
