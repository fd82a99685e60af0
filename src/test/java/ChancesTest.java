/** Promises 36 to 46: what the ward likes, chances, who it was. */
public final class ChancesTest {
    private static final Check check = new Check();

    public static void main(String[] args) {
        looks();
        laws();
        sings();
        counts();
        told();
        fits();
        check.end();
    }

    private static void looks() {
        HeldInTrust x = new HeldInTrust();
        check.due("look(-1, 0)", x.look(-1, 0), -1);
        check.due("look(10, 0)", x.look(10, 0), -1);
        check.due("look(0, 2)", x.look(0, 2), -1);
        check.due("look(0, -1)", x.look(0, -1), -1);
        for (int i = 1; i <= 12; i++) {
            check.due("look " + i, x.look(i % 10, 0), i);
        }
        check.due("the thirteenth", x.look(0, 0), -1);
        check.due("count(10)", x.count(10), 12);
        check.due("forget", x.forget(), 12);
        check.due("forget again", x.forget(), 0);
        check.due("look", x.look(9, 1), 1);
    }

    private static void laws() {
        HeldInTrust x = new HeldInTrust();
        check.due("all laws", x.laws(), 21);
        check.row("all laws", x, 1, 0);
        check.due("sure of nothing", x.sure(), 0);
        check.row("sure of nothing", x, 0);
        // 0 is liked by (m, 0): 6; 1 by (1, 0) and (m, 1): 6; .. 6 of 21 each
        check.due("tries", x.tries(), 0);
        check.row("tries", x, 15);
        x.look(7, 1);
        x.look(1, 1);
        // by 1, by 2 (1), by 3 (1), by 6 (1)
        check.due("laws", x.laws(), 4);
        check.row("laws", x, 1, 0);
        check.due("sure", x.sure(), 1 << 1 | 1 << 7);
        check.row("sure", x, 0);
        // 0 is liked by (1, 0) alone: 3 left; 3 by (1, 0), (2, 1): 2
        check.due("tries", x.tries(), 3);
        check.row("tries", x, 2);
        x.look(3, 0);
        // (3, 1), (6, 1)
        check.due("laws", x.laws(), 2);
        check.row("laws", x, 3, 1);
        check.due("sure", x.sure(), 1 << 1 | 1 << 7);
        check.row("sure", x, 1 | 1 << 2 | 1 << 3 | 1 << 5 | 1 << 6 | 1 << 8 | 1 << 9);
        check.due("tries", x.tries(), 4);
        check.row("tries", x, 1);
        x.look(4, 1);
        check.due("laws", x.laws(), 1);
        check.row("laws", x, 3, 1);
        check.due("tries with one law", x.tries(), 0);
        check.row("tries with one law", x, 1);
        x.look(4, 0);
        check.due("no laws", x.laws(), 0);
        check.row("no laws", x);
        x.tonight();
        check.due("tries without laws", x.tries(), -2);
        check.row("tries without laws: the row is as it was", x, 0, 0);
        check.due("sure without laws", x.sure(), 0);
        check.row("sure without laws", x, 0);
    }

    private static void sings() {
        HeldInTrust x = Check.made("5390", "");
        check.due("sings(1, 5, 3)", x.sings(1, 5, 3), 0);
        check.row("sings(1, 5, 3)", x, 3, 10);
        x.sings(1, 6, 3);
        check.row("sings(1, 6, 3)", x, 0, 1);
        x.sings(1, 0, 0);
        check.row("sings(1, 0, 0)", x, 1, 1);
        x.sings(2, 4, 3);
        check.row("sings(2, 4, 3)", x, 3, 10);
        x.sings(2, 3, 3);
        check.row("sings(2, 3, 3)", x, 51, 100);
        x.sings(3, 9, 5);
        // 9 with any, or ... 5 and 3 are 8
        check.row("sings(3, 9, 5)", x, 1, 2);
        x.sings(3, 8, 5);
        check.row("sings(3, 8, 5)", x, 5, 8);
        x.sings(10, 42, 10);
        check.row("sings(10, 42, 10): 17 twice, 5, 3", x, 1, 1);
        x.sings(10, 43, 10);
        check.row("sings(10, 43, 10)", x, 0, 1);
        x.sings(10, 99, 9);
        check.row("sings(10, 99, 9)", x, 0, 1);
        x.sings(10, 42, 1);
        // all but the two of worth 0 must be sung
        check.row("sings(10, 42, 1)", x, 1, 100000000);
        x.sings(10, 1, 1);
        // not all eight silent: 1 less 0.9 to the eighth
        check.row("sings(10, 1, 1)", x, 56953279, 100000000);
        x.nights(2);
        x.sings(1, 9, 3);
        check.row("from this night on", x, 3, 10);
        Check.songs(x, "9");
        x.sings(10, 90, 3);
        check.row("ten to the tenth", x, 59049, 10000000000L);
        int[][] others = {{0, 1, 1}, {11, 1, 1}, {1, -1, 1}, {1, 100, 1}, {1, 1, -1}, {1, 1, 11}};
        for (int[] o : others) {
            check.due("sings of " + o[0] + " " + o[1] + " " + o[2], x.sings(o[0], o[1], o[2]), -1);
        }
        check.row("refused: the row is as it was", x, 59049, 10000000000L);
    }

    private static void counts() {
        HeldInTrust x = Check.made("5390", "");
        x.tonight();
        check.due("counts(1, 30, 3)", x.counts(1, 30, 3), 5);
        check.due("counts(1, 31, 3)", x.counts(1, 31, 3), 0);
        check.due("counts(2, 51, 3)", x.counts(2, 51, 3), 3);
        check.due("counts(2, 52, 3)", x.counts(2, 52, 3), 0);
        check.due("counts(2, 9, 3)", x.counts(2, 9, 3), 8);
        check.due("counts(2, 10, 3)", x.counts(2, 10, 3), 5);
        check.due("counts(4, 100, 10)", x.counts(4, 100, 10), 17);
        check.due("counts(4, 0, 10)", x.counts(4, 0, 10), 90);
        check.due("counts(4, 1, 0)", x.counts(4, 1, 0), 0);
        Check.songs(x, "9");
        check.due("counts(10, 100, 10)", x.counts(10, 100, 10), 90);
        int[][] others = {{0, 1, 1}, {11, 1, 1}, {1, -1, 1}, {1, 101, 1}, {1, 1, -1}, {1, 1, 11}};
        for (int[] o : others) {
            check.due("counts of " + o[0] + " " + o[1] + " " + o[2], x.counts(o[0], o[1], o[2]), -1);
        }
        check.row("no row is told", x, 0, 5);
    }

    private static void told() {
        HeldInTrust x = new HeldInTrust();
        int[][] others = {{-1, 0}, {5, 0}, {0, -1}, {0, 4}, {1, 0}, {1, 10}, {2, -1}, {2, 100}, {3, -1}, {3, 2}, {4, -1}, {4, 10}};
        for (int[] o : others) {
            check.due("told of " + o[0] + " " + o[1], x.told(o[0], o[1]), -1);
        }
        int[][] right = {{0, 0}, {0, 3}, {1, 1}, {1, 9}, {2, 0}, {2, 99}, {3, 0}, {3, 1}, {4, 0}, {4, 9}, {0, 1}, {0, 2}};
        for (int i = 0; i < right.length; i++) {
            check.due("told of " + right[i][0] + " " + right[i][1], x.told(right[i][0], right[i][1]), i + 1);
        }
        check.due("the thirteenth", x.told(0, 0), -1);
        check.due("count(11)", x.count(11), 12);
        check.due("deny", x.deny(), 12);
        check.due("deny again", x.deny(), 0);
        check.due("fits without hearers", x.fits(), 0);
        check.row("fits without hearers", x, 0);
        check.due("ask without hearers", x.ask(), -2);
    }

    private static void fits() {
        HeldInTrust x = Check.made("9", "o93;l51;o25;w93;l18");
        Check.rule(x, "0");
        x.nights(5);
        x.hum(1, 5);
        x.hum(3, 9);
        check.due("all", x.fits(), 31);
        check.row("all", x, 5);
        // pays 3, 1, 5, 3, 8: 3 or less are three
        check.due("ask", x.ask(), 3);
        check.row("ask", x, 3);
        int[][] said = {{0, 0}, {0, 1}, {0, 2}, {0, 3}, {1, 1}, {1, 5}, {1, 6}, {1, 9}, {2, 0}, {2, 5}, {2, 8}, {2, 9}, {3, 0}, {3, 1}, {4, 3}, {4, 8}, {4, 9}};
        int[] due = {5, 18, 0, 8, 31, 11, 9, 9, 21, 23, 23, 31, 21, 10, 9, 16, 0};
        for (int i = 0; i < said.length; i++) {
            x.deny();
            x.told(said[i][0], said[i][1]);
            check.due("fits of " + said[i][0] + " " + said[i][1], x.fits(), due[i]);
            check.row("fits", x, Integer.bitCount(due[i]));
        }
        x.tonight();
        check.due("ask, none fits", x.ask(), -2);
        check.row("ask, none fits: the row is as it was", x, 0, 9);
        x.deny();
        x.told(3, 1);
        x.told(1, 6);
        check.due("both", x.fits(), 8);
        check.due("ask of one", x.ask(), 0);
        check.row("ask of one", x, 1);
        x.deny();
        x.told(0, 1);
        // pays 1 and 8
        check.due("ask of two", x.ask(), 1);
        check.row("ask of two", x, 1);
        check.due("count(11)", x.count(11), 1);
    }
}
