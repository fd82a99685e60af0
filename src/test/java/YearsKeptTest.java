/** Promises 47 to 53: rests, another rule, years by a seed, what is kept, counts and the ROW. */
public final class YearsKeptTest {
    private static final Check check = new Check();

    public static void main(String[] args) {
        rests();
        law();
        years();
        kept();
        counts();
        rows();
        check.end();
    }

    private static void rests() {
        HeldInTrust x = new HeldInTrust();
        // hours cost nothing and bring nothing: all pairs
        check.due("rests(0, 0, 0)", x.rests(0, 0, 0), 100);
        check.row("rests(0, 0, 0)", x, 0, 0);
        // hours cost: nobody watches
        check.due("rests(0, 1, 1)", x.rests(0, 1, 1), 1);
        check.row("rests(0, 1, 1)", x, 0, 0);
        // 20 or 10: one alone would have 20 - 9 for 10: x + y = 9, all ten pairs
        check.due("rests(20, 1, 1)", x.rests(20, 1, 1), 10);
        check.row("rests(20, 1, 1)", x, 0, 9);
        // 10 more for 2 an hour: 5 at most; 4 and 5, 5 and 4; and nobody, as 9 would cost 18
        check.due("rests(20, 2, 2)", x.rests(20, 2, 2), 3);
        check.row("rests(20, 2, 2)", x, 0, 0);
        // half of 1 is 0 (cut): 1 more, for which the one watches 1 hour at most: 0 and 9, 1 and 8
        check.due("rests(1, 1, 0)", x.rests(1, 1, 0), 2);
        check.row("rests(1, 1, 0)", x, 0, 9);
        // v is 0: the one for whom hours cost nothing rests anywhere
        check.due("rests(0, 1, 0)", x.rests(0, 1, 0), 10);
        check.row("rests(0, 1, 0)", x, 0, 0);
        check.due("rests(0, 0, 5)", x.rests(0, 0, 5), 10);
        int[][] others = {{-1, 1, 1}, {21, 1, 1}, {1, -1, 1}, {1, 6, 1}, {1, 1, -1}, {1, 1, 6}};
        for (int[] o : others) {
            check.due("rests of " + o[0] + " " + o[1] + " " + o[2], x.rests(o[0], o[1], o[2]), -1);
        }
        check.row("refused: the row is as it was", x, 0, 0);
    }

    private static void law() {
        HeldInTrust x = Check.made("9", "o93");
        check.due("by nothing", Check.law(x, "0"), 180 - bookBehind(20));
        check.row("by nothing", x, 180, bookBehind(20));
        check.due("as later() says", x.later(20), bookBehind(20));
        check.due("by the same", Check.law(x, "v-k-h/10"), 0);
        check.due("by none", Check.law(x, ""), 0);
        check.row("by none", x, bookBehind(20), bookBehind(20));
        Check.rule(x, "0");
        check.due("below 0", Check.law(x, "9"), -180);
        check.row("below 0", x, 0, 180);
        check.due("a fault", Check.law(x, "9x"), -10001);
        check.due("a fault at the end", Check.law(x, "9+"), -10002);
        check.row("a fault: the row is as it was", x, 0, 180);
        check.due("the text is empty", x.count(14), 0);
        check.due("the rule stays", x.hearer(0, 6), 0);
        check.due("nothing changed", x.count(2) + x.count(3) + x.count(8), 0);
        Check.rule(x, "");
        check.due("by the rule that is none", Check.law(x, "0"), 180 - bookBehind(20));
    }

    /** What one hearer of v - k - h / 10 leaves of songs of 9, worked out here. */
    private static int bookBehind(int nights) {
        int book = 0;
        int heard = 0;
        for (int i = 0; i < nights; i++) {
            int part = Math.max(0, 9 - heard / 10);
            heard = Math.min(99, heard + part);
            book += 9 - part;
        }
        return book;
    }

    private static void years() {
        HeldInTrust x = Check.made("9", "");
        // R of seed 0 is 12345, by 65536: 0, a NIGHT
        check.due("years(0, 1)", x.years(0, 1), 9);
        check.row("years(0, 1)", x, 20, 0);
        check.due("nothing changed", x.count(2) + x.count(3), 0);
        check.due("years(0, 0)", x.years(0, 0), -1);
        check.due("years(0, 61)", x.years(0, 61), -1);
        check.due("years(0, -1)", x.years(0, -1), -1);
        check.row("refused: the row is as it was", x, 20, 0);
        for (int seed = -3; seed < 40; seed++) {
            checkYears(seed * 123456789, 60);
            check.due("years without hearers", x.years(seed * 123456789, 60), 9 * nightsDrawn(seed * 123456789, 60));
            check.row("years without hearers", x, 20, 0);
        }
    }

    /** Without hearers one DRAW a time, of which 0 and 1 tell a NIGHT. */
    private static int nightsDrawn(int seed, int n) {
        int nights = 0;
        long r = seed & 0xffffffffL;
        for (int i = 0; i < n; i++) {
            r = (r * 1103515245L + 12345L) & 0xffffffffL;
            nights += r / 65536 % 4 < 2 ? 1 : 0;
        }
        return nights;
    }

    /** The draws once more, without sign as longs; two hearers of WANT 1 who pay 1 and 2. */
    private static void checkYears(int seed, int n) {
        HeldInTrust x = Check.made("9", "o11;o12");
        Check.rule(x, "1");
        HeldInTrust y = Check.made("9", "o11;o12");
        Check.rule(y, "1");
        long r = seed & 0xffffffffL;
        for (int i = 0; i < n; i++) {
            r = (r * 1103515245L + 12345L) & 0xffffffffL;
            long kind = r / 65536 % 4;
            if (kind < 2) {
                y.nights(1);
                continue;
            }
            r = (r * 1103515245L + 12345L) & 0xffffffffL;
            int hearer = (int) (r / 65536 % 2);
            if (kind == 2) {
                y.comes(hearer);
                continue;
            }
            r = (r * 1103515245L + 12345L) & 0xffffffffL;
            y.hum(hearer, (int) (r / 65536 % 9) + 1);
        }
        check.due("years(" + seed + ", " + n + ")", x.years(seed, n), y.count(3));
        check.row("years(" + seed + ", " + n + ")", x, y.count(4), y.count(8));
        check.due("nothing changed", x.count(2) + x.count(3) + x.count(8) + x.count(12), 0);
    }

    private static void kept() {
        HeldInTrust x = Check.made("9", "o11;o12");
        check.due("keep(-1)", x.keep(-1), false);
        check.due("keep(2)", x.keep(2), false);
        check.due("again(0)", x.again(0), false);
        check.due("again(2)", x.again(2), false);
        check.due("again(-1)", x.again(-1), false);
        x.nights(1);
        check.due("keep(0)", x.keep(0), true);
        check.due("keep forgets nothing", x.count(12), 1);
        x.comes(0);
        x.gain(4);
        x.stake(3);
        x.hum(1, 2);
        x.nights(6);
        check.due("keep(1)", x.keep(1), true);
        int money = x.count(4);
        int heard = x.count(8);
        x.nights(1);
        check.due("again(0)", x.again(0), true);
        int[] due = {1, 2, 1, 7, 23, 0, 11, 3, 2, 0};
        for (int what = 0; what < due.length; what++) {
            check.due("as kept: count(" + what + ")", x.count(what), due[what]);
        }
        check.due("nothing to undo", x.undo(), -1);
        check.due("again(1)", x.again(1), true);
        check.due("night", x.count(2), 7);
        check.due("gain", x.count(6), 14);
        check.due("stake", x.count(5), 4);
        check.due("money", x.count(4), money);
        check.due("heard", x.count(8), heard);
        check.due("surcharged", x.count(9), 1);
        check.due("present", x.count(7), 2);
        check.due("again and again", x.again(0), true);
        check.due("night", x.count(2), 1);
        x.keep(1);
        Check.hearers(x, "");
        check.due("an empty hearers() brings none", x.again(1), true);
        Check.hearers(x, "z");
        check.due("a wrong one neither", x.again(0), true);
        Check.hearers(x, "o11");
        check.due("hearers came", x.again(0), false);
        check.due("hearers came", x.again(1), false);
        x.nights(1);
        check.due("a wrong again() changes nothing", x.again(0), false);
        check.due("night", x.count(2), 2);
        check.due("keep(0)", x.keep(0), true);
        x.nights(1);
        check.due("again(0)", x.again(0), true);
        check.due("again(1) is still of fewer", x.again(1), false);
        check.due("night", x.count(2), 2);
    }

    private static void counts() {
        HeldInTrust x = Check.made("912", "o11;o12;w35");
        x.gain(-2);
        x.nights(2);
        x.hum(0, 1);
        x.hum(2, 2);
        x.comes(1);
        x.stake(7);
        x.look(1, 1);
        x.look(2, 0);
        x.told(0, 0);
        x.sign(0);
        x.envy();
        int[] due = {3, 3, 2, 1, 20 + 3 + 15 + 1 + 2 + 20 - 7, 7, 8, 5, 6 + 3, 2, 2, 1, 6, 2, 4};
        for (int what = 0; what < due.length; what++) {
            check.due("count(" + what + ")", x.count(what), due[what]);
        }
        check.due("count(-1)", x.count(-1), -1);
        check.due("count(15)", x.count(15), -1);
        check.due("count(max)", x.count(Integer.MAX_VALUE), -1);
    }

    private static void rows() {
        HeldInTrust x = Check.made("9", "o11;o12");
        check.noRow(x, 0);
        x.tonight();
        check.due("row(0)", x.row(0), 3);
        check.due("row(1)", x.row(1), 7);
        check.noRow(x, 2);
        check.noRow(x, -1);
        check.noRow(x, Integer.MAX_VALUE);
        check.noRow(x, Integer.MIN_VALUE);
        x.comes(0);
        x.count(3);
        x.worth(4);
        x.notes(5, 3, 0);
        check.row("calls that tell none leave it", x, 3, 7);
        x.envy();
        check.row("another row", x, 0, 1);
        x.fits();
        check.noRow(x, 1);
    }
}
