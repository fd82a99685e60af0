/** The edges that promises 36 to 46 name; each test bears the words that it holds to. */
public final class ChancesEdgesTest {
    private static final Check check = new Check();

    public static void main(String[] args) {
        looks();
        laws();
        sure();
        tries();
        sings();
        counts();
        told();
        fits();
        ask();
        check.end();
    }

    private static void looks() {
        HeldInTrust x = new HeldInTrust();
        check.due("v 0, not liked: how many looks", x.look(0, 0), 1);
        check.due("v 9, liked", x.look(9, 1), 2);
        check.due("the same again is one more", x.look(9, 1), 3);
        check.due("what denies it is one more", x.look(9, 0), 4);
        for (int i = 5; i <= 12; i++) {
            check.due("up to 12", x.look(5, 1), i);
        }
        check.due("Refused: 12", x.look(5, 1), -1);
        check.due("Refused: 12: they stay", x.count(10), 12);
        check.due("They are forgotten: how many there were", x.forget(), 12);
        check.due("They are forgotten", x.count(10), 0);
        check.due("They are forgotten: none", x.forget(), 0);
        check.due("there is room again", x.look(5, 1), 1);
        check.unchanged("Refused: others: v -1", -1, y -> y.look(-1, 1));
        check.unchanged("Refused: others: v 10", -1, y -> y.look(10, 1));
        check.unchanged("Refused: others: is 2", -1, y -> y.look(1, 2));
        check.unchanged("Refused: others: is -1", -1, y -> y.look(1, -1));
        check.unchanged("Refused: others: the least", -1, y -> y.look(Integer.MIN_VALUE, 0));
        check.unchanged("Refused: others: the greatest", -1, y -> y.look(0, Integer.MAX_VALUE));
        check.unchanged("Refused: 12", -1, y -> {
            for (int i = 0; i < 10; i++) {
                y.look(4, 1);
            }
        }, y -> y.look(4, 1));
    }

    /** Looks, each as 10 times the WORTH, and 1 if it was liked. */
    private static HeldInTrust seen(int... looks) {
        HeldInTrust x = new HeldInTrust();
        for (int look : looks) {
            x.look(look / 10, look % 10);
        }
        return x;
    }

    /** Laws are m 1 .. 6, r 0 .. m less 1: 1 + 2 + 3 + 4 + 5 + 6. */
    private static void laws() {
        HeldInTrust x = new HeldInTrust();
        check.due("no looks: all laws fit", x.laws(), 21);
        check.row("the least (m, r)", x, 1, 0);
        x = seen(0);
        check.due("0 is not liked: all but those of r 0", x.laws(), 15);
        check.row("the least: of m, then of r", x, 2, 1);
        x = seen(1);
        check.due("0 is liked: those of r 0", x.laws(), 6);
        check.row("the least: m 1", x, 1, 0);
        x = seen(51, 0, 10, 20, 30, 40);
        check.due("5 is liked, nothing below it: m 6, r 5 alone", x.laws(), 1);
        check.row("the greatest law is a law", x, 6, 5);
        x = seen(91, 0, 10, 20, 30, 40, 50, 60, 70, 80);
        check.due("9 alone: no law, as m is 6 at most", x.laws(), 0);
        check.row("nothing without", x);
        x = seen(11, 10);
        x.tonight();
        check.due("liked and not: none", x.laws(), 0);
        check.row("nothing without: no number of another ROW", x);
        check.due("a look that was had twice", seen(1, 1).laws(), 6);
    }

    private static void sure() {
        HeldInTrust x = new HeldInTrust();
        check.due("no looks: none is liked by all", x.sure(), 0);
        check.row("no looks: none is liked by none", x, 0);
        x = seen(51, 0, 10, 20, 30, 40);
        check.due("one law, 6 and 5: 5", x.sure(), 1 << 5);
        check.row("those that none does: all others", x, 1023 - (1 << 5));
        x = seen(11, 10);
        check.due("(0 and 0 without laws)", x.sure(), 0);
        check.row("(0 and 0 without laws)", x, 0);
        x = seen(1, 11);
        x.forget();
        check.due("forgotten", x.sure(), 0);
        check.row("forgotten", x, 0);
        x = seen(1, 11, 21, 31, 41, 51);
        check.due("0 .. 5 are liked: by m 1: all", x.sure(), 1023);
        check.row("0 .. 5 are liked: by m 1: all", x, 0);
    }

    private static void tries() {
        HeldInTrust x = new HeldInTrust();
        check.due("of equal ones the least", x.tries(), 0);
        check.row("how many at most: 6 like it, 15 do not", x, 15);
        x = seen(1);
        // by 1 .. 6 (r 0): 4 is liked by 1, 2, 4; 6 by 1, 2, 3, 6
        check.due("liked or not: as many are left by both", x.tries(), 4);
        check.row("liked or not: as many are left by both", x, 3);
        x = seen(41, 0, 10, 20, 30);
        // by 5 (r 4): 4 and 9; by 6 (r 4): 4
        check.due("The WORTH (0 .. 9): 9 alone parts them", x.tries(), 9);
        check.row("The WORTH (0 .. 9): 9 alone parts them", x, 1);
        x = seen(51, 0, 10, 20, 30, 40);
        check.due("one law: 0", x.tries(), 0);
        check.row("one law: it is left, liked or not", x, 1);
        x = seen(11, 10);
        check.due("-2: none fits", x.tries(), -2);
        x.tonight();
        x.tries();
        check.row("-2 changes nothing", x, 0, 0);
        check.unchanged("-2: none fits", -2, y -> {
            y.look(4, 0);
            y.tonight();
        }, HeldInTrust::tries);
    }

    private static void sings() {
        HeldInTrust x = Check.made("59", "");
        check.due("n 1, v 0, p 0", x.sings(1, 0, 0), 0);
        check.row("v 0 is sure", x, 1, 1);
        x.sings(1, 1, 0);
        check.row("p 0: never", x, 0, 1);
        x.sings(1, 5, 10);
        check.row("p 10: v or more: 5 itself", x, 1, 1);
        x.sings(1, 6, 10);
        check.row("p 10: one more", x, 0, 1);
        x.sings(1, 5, 4);
        check.row("in lowest terms: 4 by 10", x, 2, 5);
        x.sings(2, 14, 5);
        check.row("both", x, 1, 4);
        x.sings(2, 9, 5);
        check.row("the second", x, 1, 2);
        x.sings(2, 1, 5);
        check.row("one of both", x, 3, 4);
        x.sings(10, 70, 10);
        check.row("n 10: 70 together", x, 1, 1);
        x.sings(10, 71, 10);
        check.row("n 10: 71", x, 0, 1);
        x.tonight();
        check.due("v 99", x.sings(10, 99, 10), 0);
        check.row("v 99", x, 0, 1);
        x.sings(10, 70, 1);
        check.row("1 by 10 to the tenth", x, 1, 10000000000L);
        Check.songs(x, "9");
        x.sings(10, 90, 10);
        check.row("90 of 90", x, 1, 1);
        x.sings(10, 91, 10);
        check.row("91 of 90", x, 0, 1);
        Check.songs(x, "0");
        x.sings(10, 0, 7);
        check.row("SONGS of WORTH 0: 0", x, 1, 1);
        x.sings(10, 1, 7);
        check.row("SONGS of WORTH 0: 1", x, 0, 1);
        int[][] others = {{0, 1, 1}, {-1, 1, 1}, {11, 1, 1}, {1, -1, 1}, {1, 100, 1}, {1, 1, -1}, {1, 1, 11},
            {Integer.MIN_VALUE, 1, 1}, {1, Integer.MAX_VALUE, 1}};
        for (int[] o : others) {
            check.unchanged("NONE: others: " + o[0] + " " + o[1] + " " + o[2], -1, y -> y.sings(o[0], o[1], o[2]));
        }
    }

    private static void counts() {
        HeldInTrust x = Check.made("59", "");
        check.due("q 0: the most v, 90", x.counts(1, 0, 0), 90);
        check.due("q 0: the most v, 90", x.counts(10, 0, 10), 90);
        check.due("q 100, p 10", x.counts(1, 100, 10), 5);
        check.due("q 100, p 10, n 10", x.counts(10, 100, 10), 70);
        check.due("q 100, p 9: 0", x.counts(10, 100, 9), 0);
        check.due("q in 100 or more: 50 itself", x.counts(1, 50, 5), 5);
        check.due("q in 100 or more: 51", x.counts(1, 51, 5), 0);
        check.due("q in 100 or more: 25 itself", x.counts(2, 25, 5), 14);
        check.due("q in 100 or more: 26", x.counts(2, 26, 5), 9);
        check.due("q in 100 or more: 50 itself", x.counts(2, 50, 5), 9);
        check.due("q in 100 or more: 51", x.counts(2, 51, 5), 5);
        check.due("q in 100 or more: 75 itself", x.counts(2, 75, 5), 5);
        check.due("q in 100 or more: 76", x.counts(2, 76, 5), 0);
        check.due("p 0: 0", x.counts(10, 1, 0), 0);
        Check.songs(x, "1");
        check.due("1", x.counts(1, 50, 5), 1);
        check.due("1: in 100", x.counts(1, 51, 5), 0);
        Check.songs(x, "59");
        check.due("q 1: 1 by 10 to the second", x.counts(2, 1, 1), 14);
        check.due("q 2: 1 by 10 to the second is too little", x.counts(2, 2, 1), 9);
        Check.songs(x, "9");
        check.due("90", x.counts(10, 100, 10), 90);
        int[][] others = {{0, 1, 1}, {-1, 1, 1}, {11, 1, 1}, {1, -1, 1}, {1, 101, 1}, {1, 1, -1}, {1, 1, 11},
            {Integer.MIN_VALUE, 1, 1}, {1, Integer.MAX_VALUE, 1}};
        for (int[] o : others) {
            check.unchanged("NONE: others: " + o[0] + " " + o[1] + " " + o[2], -1, y -> y.counts(o[0], o[1], o[2]));
        }
    }

    private static void told() {
        int[][] least = {{0, 0, 3}, {1, 1, 9}, {2, 0, 99}, {3, 0, 1}, {4, 0, 9}};
        for (int[] l : least) {
            HeldInTrust x = new HeldInTrust();
            check.due("told(" + l[0] + ", " + l[1] + ")", x.told(l[0], l[1]), 1);
            check.due("told(" + l[0] + ", " + l[2] + ")", x.told(l[0], l[2]), 2);
            check.unchanged("Refused: others: " + l[0] + ", " + (l[1] - 1), -1, y -> y.told(l[0], l[1] - 1));
            check.unchanged("Refused: others: " + l[0] + ", " + (l[2] + 1), -1, y -> y.told(l[0], l[2] + 1));
        }
        check.unchanged("Refused: others: what 5", -1, y -> y.told(5, 1));
        check.unchanged("Refused: others: what -1", -1, y -> y.told(-1, 1));
        check.unchanged("Refused: others: the least", -1, y -> y.told(Integer.MIN_VALUE, 1));
        check.unchanged("Refused: others: the greatest", -1, y -> y.told(0, Integer.MAX_VALUE));
        HeldInTrust x = new HeldInTrust();
        for (int i = 1; i <= 12; i++) {
            check.due("up to 12", x.told(2, i), i);
        }
        check.due("Refused: 12", x.told(2, 5), -1);
        check.due("Refused: 12: they stay", x.count(11), 12);
        check.due("It is denied: how many there were", x.deny(), 12);
        check.due("It is denied", x.count(11), 0);
        check.due("It is denied: nothing", x.deny(), 0);
        check.due("there is room again", x.told(2, 5), 1);
        check.unchanged("Refused: 12", -1, y -> {
            for (int i = 0; i < 10; i++) {
                y.told(2, 99);
            }
        }, y -> y.told(2, 99));
    }

    private static void fits(String words, HeldInTrust x, int what, int v, int due) {
        x.deny();
        x.told(what, v);
        check.due(words, x.fits(), due);
        check.row(words + ": how many", x, Integer.bitCount(due));
    }

    private static void fits() {
        HeldInTrust x = Check.made("9", "o15;l56;c97;w58");
        Check.rule(x, "0");
        x.nights(60);
        x.hum(1, 9);
        x.hum(2, 5);
        check.due("nothing was told: all", x.fits(), 15);
        check.row("nothing was told: all", x, 4);
        fits("0: SORT is v: 0", x, 0, 0, 1);
        fits("0: SORT is v: 3", x, 0, 3, 8);
        fits("1: WANT is v or more: 1", x, 1, 1, 15);
        fits("1: WANT is v or more: 5 itself", x, 1, 5, 14);
        fits("1: WANT is v or more: 6", x, 1, 6, 4);
        fits("1: WANT is v or more: 9", x, 1, 9, 4);
        fits("2: HEARD is v or less: 0", x, 2, 0, 9);
        fits("2: HEARD is v or less: 4", x, 2, 4, 9);
        fits("2: HEARD is v or less: 5 itself", x, 2, 5, 13);
        fits("2: HEARD is v or less: 9 itself", x, 2, 9, 15);
        fits("2: HEARD is v or less: 99", x, 2, 99, 15);
        fits("3: it was SURCHARGED (1)", x, 3, 1, 6);
        fits("3: or never (0)", x, 3, 0, 9);
        fits("4: PAY is v: 5", x, 4, 5, 1);
        fits("4: PAY is v: none", x, 4, 9, 0);
        x.comes(0);
        fits("PRESENT or not", x, 4, 5, 1);
        x.told(0, 1);
        check.due("fit all that was told: none", x.fits(), 0);
        check.row("fit all that was told: none", x, 0);
        check.due("without HEARERS", new HeldInTrust().fits(), 0);
    }

    private static void ask() {
        HeldInTrust x = Check.made("9", "o10;o15;o19");
        check.due("PAY is v or less or not", x.ask(), 0);
        check.row("of equal ones the least: 0, not 5", x, 2);
        x = Check.made("9", "o11;o13;o15;o17");
        check.due("PAY is v or less or not: two are left", x.ask(), 3);
        check.row("PAY is v or less or not: two are left", x, 2);
        x = Check.made("9", "l11;o13;l15;o17;l12");
        x.told(0, 0);
        check.due("such HEARERS alone: 3 and 7", x.ask(), 3);
        check.row("such HEARERS alone: one is left", x, 1);
        x = Check.made("9", "o19");
        check.due("one: of equal ones the least", x.ask(), 0);
        check.row("one: it is left", x, 1);
        x = Check.made("9", "o13;o17");
        check.due("two: 3 parts them", x.ask(), 3);
        check.row("two: one is left", x, 1);
        x = Check.made("9", "o18;o19");
        check.due("two: 8 parts them", x.ask(), 8);
        check.row("two: one is left", x, 1);
        x = Check.made("9", "o14;o14");
        check.due("two alike: nothing parts them, the least", x.ask(), 0);
        check.row("two alike", x, 2);
        check.due("-2: none fits: without HEARERS", new HeldInTrust().ask(), -2);
        check.unchanged("-2: none fits", -2, y -> y.told(4, 9), HeldInTrust::ask);
    }
}
