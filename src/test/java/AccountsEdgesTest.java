/** The edges that promises 30 to 35 name; each test bears the words that it holds to. */
public final class AccountsEdgesTest {
    private static final Check check = new Check();

    public static void main(String[] args) {
        adds();
        nearest();
        awards();
        envy();
        bold();
        boldOthers();
        notes();
        notesPlayed();
        check.end();
    }

    private static void adds() {
        HeldInTrust x = Stands.heard(2, 4, 6, 4, 0);
        check.due("v 0: nobody", x.adds(0), 0);
        check.row("v 0: nobody, not the one who has HEARD 0", x, 0);
        check.due("The fewest HEARERS: 6 alone, not 2 and 4", x.adds(6), 1);
        check.row("The fewest HEARERS", x, 4);
        check.due("of as few the least: 4", x.adds(4), 1);
        check.row("of as few the least: not 8", x, 2);
        check.due("of as few the least: 10", x.adds(10), 2);
        check.row("of as few the least: not 12", x, 6);
        check.due("all that have HEARD something", x.adds(16), 4);
        check.row("all that have HEARD something", x, 15);
        check.due("-2: none are: more than all", x.adds(17), -2);
        check.due("-2: none are: between", x.adds(3), -2);
        check.due("-2: none are: 999", x.adds(999), -2);
        x.comes(2);
        check.due("PRESENT or not", x.adds(6), 1);
        x = Stands.heard(99, 99, 99, 99, 99, 99, 99, 99);
        check.due("eight of 99", x.adds(792), 8);
        check.row("eight of 99", x, 255);
        check.due("eight of 99: one less", x.adds(791), -2);
        check.due("without HEARERS: 0", new HeldInTrust().adds(0), 0);
        check.due("without HEARERS: 1", new HeldInTrust().adds(1), -2);
        check.unchanged("-2: none are", -2, y -> y.adds(999));
        check.unchanged("NONE: another v: -1", -1, y -> y.adds(-1));
        check.unchanged("NONE: another v: 1000", -1, y -> y.adds(1000));
        check.unchanged("NONE: another v: the least", -1, y -> y.adds(Integer.MIN_VALUE));
        check.unchanged("NONE: another v: the greatest", -1, y -> y.adds(Integer.MAX_VALUE));
    }

    private static void nearest() {
        HeldInTrust x = Stands.heard(3, 9, 6, 3);
        check.due("v 0: nobody", x.nearest(0), 0);
        check.row("v 0: nobody", x, 0);
        check.due("1: nobody", x.nearest(1), 0);
        check.row("1: nobody", x, 0);
        check.due("2", x.nearest(2), 3);
        check.row("2: the fewest, then the least", x, 1);
        check.due("9 itself", x.nearest(9), 9);
        check.row("9: the fewest: not 3 and 6", x, 2);
        check.due("6: the fewest: not 3 and 3", x.nearest(6), 6);
        check.row("6: the fewest", x, 4);
        check.due("12", x.nearest(12), 12);
        check.row("12: the fewest, then the least: not 5 and 8", x, 3);
        check.due("999", x.nearest(999), 21);
        check.row("999: all", x, 15);
        x = Stands.heard(4, 8);
        check.due("of two the lesser one: 4 and 8", x.nearest(6), 4);
        check.row("of two the lesser one", x, 1);
        check.due("of two the lesser one: 8 and 12", x.nearest(10), 8);
        check.row("of two the lesser one", x, 2);
        check.due("of two the lesser one: 0 and 4", x.nearest(2), 0);
        check.row("of two the lesser one: nobody", x, 0);
        x = Stands.heard(8, 4);
        check.due("of two the lesser one: 8 and 4", x.nearest(6), 4);
        check.row("of two the lesser one", x, 2);
        x = Stands.heard(0, 0);
        check.due("all have HEARD 0", x.nearest(5), 0);
        check.row("all have HEARD 0: the fewest", x, 0);
        check.due("without HEARERS", new HeldInTrust().nearest(999), 0);
        check.unchanged("NONE: another v: -1", -1, y -> y.nearest(-1));
        check.unchanged("NONE: another v: 1000", -1, y -> y.nearest(1000));
        check.unchanged("NONE: another v: the least", -1, y -> y.nearest(Integer.MIN_VALUE));
        check.unchanged("NONE: another v: the greatest", -1, y -> y.nearest(Integer.MAX_VALUE));
    }

    private static void awards() {
        HeldInTrust x = Stands.heard(2, 5, 0, 3);
        check.due("v 0", x.awards(0), 0);
        check.row("v 0", x, 0, 0, 0, 0, 0);
        check.due("v 1: of like ones the first", x.awards(1), 1);
        check.row("v 1", x, 1, 0, 0, 0, 0);
        check.due("v 3: one who HEARD 0 has none", x.awards(3), 1);
        check.row("v 3", x, 1, 1, 0, 1, 0);
        check.due("v 6", x.awards(6), 2);
        check.row("v 6", x, 2, 2, 0, 2, 0);
        check.due("v 7: HEARER 0 has as many as it HEARD", x.awards(7), 2);
        check.row("v 7", x, 2, 3, 0, 2, 0);
        check.due("v 10: as long as there is one", x.awards(10), 2);
        check.row("v 10", x, 2, 5, 0, 3, 0);
        check.due("v 11: what is left", x.awards(11), 2);
        check.row("v 11: what is left", x, 2, 5, 0, 3, 1);
        check.due("v 999", x.awards(999), 2);
        check.row("v 999", x, 2, 5, 0, 3, 989);
        x = new HeldInTrust();
        check.due("(0 without)", x.awards(9), 0);
        check.row("without HEARERS all is left", x, 9);
        check.due("(0 without): v 0", x.awards(0), 0);
        check.row("without HEARERS: v 0", x, 0);
        x = Stands.heard(99, 99, 99, 99, 99, 99, 99, 99);
        check.due("eight of 99: 999", x.awards(999), 99);
        check.row("eight of 99: 999", x, 99, 99, 99, 99, 99, 99, 99, 99, 207);
        check.due("eight of 99: 791", x.awards(791), 99);
        check.row("eight of 99: 791", x, 99, 99, 99, 99, 99, 99, 99, 98, 0);
        check.unchanged("NONE: another v: -1", -1, y -> y.awards(-1));
        check.unchanged("NONE: another v: 1000", -1, y -> y.awards(1000));
        check.unchanged("NONE: another v: the least", -1, y -> y.awards(Integer.MIN_VALUE));
        check.unchanged("NONE: another v: the greatest", -1, y -> y.awards(Integer.MAX_VALUE));
    }

    private static void envy() {
        HeldInTrust x = Stands.heard(3, 9, 1, 9, 1);
        check.due("the greatest difference", x.envy(), 8);
        check.row("of like ones the least row: not 1 and 4, not 2 and 3", x, 1, 2);
        x = Stands.heard(1, 9, 1);
        check.due("of like ones the least row", x.envy(), 8);
        check.row("(the lesser first): 0 and 1, not 1 and 2", x, 0, 1);
        x = Stands.heard(5, 5, 5);
        check.due("no difference", x.envy(), 0);
        check.row("no difference: the least row", x, 0, 1);
        x = Stands.heard(0, 99);
        check.due("two: 99", x.envy(), 99);
        check.row("two", x, 0, 1);
        check.due("-2: fewer than two: one", Stands.heard(5).envy(), -2);
        check.due("-2: fewer than two: none", new HeldInTrust().envy(), -2);
        HeldInTrust one = Check.made("5", "o11");
        one.tonight();
        String row = Stands.row(one);
        one.envy();
        check.same("-2 changes nothing", Stands.row(one), row);
    }

    private static void bold(String words, int m, int g, int n, int p, long... row) {
        HeldInTrust x = new HeldInTrust();
        check.due(words, x.bold(m, g, n, p), 0);
        check.row(words, x, row);
    }

    private static void bold() {
        bold("n 0: g or more: g itself", 5, 5, 0, 5, 1, 1, -1);
        bold("n 0: one less", 4, 5, 0, 5, 0, 1, -1);
        bold("n 0: (NONE without a throw)", 20, 20, 0, 10, 1, 1, -1);
        bold("m 0: nothing to stake", 0, 1, 8, 10, 0, 1, 0);
        bold("m 0, n 0", 0, 20, 0, 0, 0, 1, -1);
        bold("he has it: the least stake is 0", 20, 1, 8, 3, 1, 1, 0);
        bold("m 20, g 20", 20, 20, 8, 0, 1, 1, 0);
        bold("p 0: never won", 10, 11, 8, 0, 0, 1, 0);
        bold("p 10: always won", 10, 20, 1, 10, 1, 1, 10);
        bold("p 10: always won: more than 20 coins", 19, 20, 1, 10, 1, 1, 1);
        bold("as many as he has: 10 of 10", 10, 20, 1, 5, 1, 2, 10);
        bold("as many as he has: 9 are too few", 9, 20, 1, 5, 0, 1, 0);
        bold("the least stake by which it is so", 15, 20, 1, 5, 1, 2, 5);
        bold("the least stake by which it is so: two throws, 1 of 4 or by all at once", 5, 20, 2, 5, 1, 4, 5);
        // from 10 coins: stake 10 at once or wait: 1/2; nothing is better, so the least is 0
        bold("the least stake: waiting is as good", 10, 20, 2, 5, 1, 2, 0);
        // 15: stake 5: 1/2 and else 10 with one throw, 1/2 of 1/2: 3/4
        bold("two throws: 3 by 4", 15, 20, 2, 5, 3, 4, 5);
        bold("else s less: all is lost, nothing is left for a second throw", 1, 2, 2, 5, 1, 2, 0);
        bold("else s less: 1 of 2 is left for a second throw", 2, 3, 2, 5, 1, 2, 0);
        bold("else s less: 1 of 3 staked, 2 are left", 3, 4, 2, 5, 3, 4, 1);
        bold("in lowest terms: 6 by 10", 10, 20, 1, 6, 3, 5, 10);
        // 1 to 20 by 9 tenths: five wins needed of which none may be lost: but 2, 4, 8, 16, 20: (9/10)^5
        bold("1 to 20 in five throws", 1, 20, 5, 9, 59049, 100000, 1);
        bold("1 to 20 in four throws", 1, 20, 4, 9, 0, 1, 0);
        bold("(More than 20 coins count as 20)", 20, 20, 1, 0, 1, 1, 0);
        // with 20 of 20 a stake of 20 that is won counts as 20, lost as 0: staking nothing is as good as any
        bold("(More than 20 coins count as 20): nothing to win", 20, 20, 3, 9, 1, 1, 0);
    }

    private static void boldOthers() {
        check.unchanged("NONE: others: m -1", -1, y -> y.bold(-1, 1, 1, 1));
        check.unchanged("NONE: others: m 21", -1, y -> y.bold(21, 1, 1, 1));
        check.unchanged("NONE: others: g 0", -1, y -> y.bold(1, 0, 1, 1));
        check.unchanged("NONE: others: g 21", -1, y -> y.bold(1, 21, 1, 1));
        check.unchanged("NONE: others: n -1", -1, y -> y.bold(1, 1, -1, 1));
        check.unchanged("NONE: others: n 9", -1, y -> y.bold(1, 1, 9, 1));
        check.unchanged("NONE: others: p -1", -1, y -> y.bold(1, 1, 1, -1));
        check.unchanged("NONE: others: p 11", -1, y -> y.bold(1, 1, 1, 11));
        check.unchanged("NONE: others: the least", -1, y -> y.bold(Integer.MIN_VALUE, 1, 1, 1));
        check.unchanged("NONE: others: the greatest", -1, y -> y.bold(1, 1, Integer.MAX_VALUE, 1));
    }

    private static void notes() {
        HeldInTrust x = new HeldInTrust();
        check.due("of 0 notes: who can't has lost", x.notes(0, 9, 0), 0);
        check.due("of 0 notes, one having been taken", x.notes(0, 1, 9), 0);
        check.due("of 1 note", x.notes(1, 1, 0), 1);
        check.due("of 1 note: never as many as the other one took just now", x.notes(1, 9, 1), 0);
        check.due("of 1 note, two having been taken", x.notes(1, 9, 2), 1);
        check.due("of 2 notes: 1, as the other one can't take 1 then", x.notes(2, 9, 0), 1);
        check.due("of 2 notes, 1 having been taken: 2", x.notes(2, 9, 1), 2);
        check.due("of 2 notes, 2 having been taken: 1", x.notes(2, 9, 2), 1);
        check.due("of 2 notes by 1, 1 having been taken: he can't", x.notes(2, 1, 1), 0);
        check.due("of those that are left: 9 of 9", x.notes(9, 9, 0) > 0, true);
        check.due("l above k: it forbids nothing", x.notes(3, 1, 9), x.notes(3, 1, 0));
        check.due("of 60 notes by 1", x.notes(60, 1, 0), 1);
        check.due("of 60 notes by 1, 1 having been taken", x.notes(60, 1, 1), 0);
        x.tonight();
        x.notes(60, 9, 9);
        check.row("no ROW is told", x, 0, 0);
        check.unchanged("NONE: others: n -1", -1, y -> y.notes(-1, 1, 0));
        check.unchanged("NONE: others: n 61", -1, y -> y.notes(61, 1, 0));
        check.unchanged("NONE: others: k 0", -1, y -> y.notes(1, 0, 0));
        check.unchanged("NONE: others: k 10", -1, y -> y.notes(1, 10, 0));
        check.unchanged("NONE: others: l -1", -1, y -> y.notes(1, 1, -1));
        check.unchanged("NONE: others: l 10", -1, y -> y.notes(1, 1, 10));
        check.unchanged("NONE: others: the least", -1, y -> y.notes(Integer.MIN_VALUE, 1, 0));
        check.unchanged("NONE: others: the greatest", -1, y -> y.notes(1, Integer.MAX_VALUE, 0));
    }

    /** All games, up to 60 notes, by the plainest words: won by t, if the other one loses behind t. */
    private static void notesPlayed() {
        for (int k = 1; k <= 9; k++) {
            int[][] due = new int[61][10];
            for (int n = 0; n <= 60; n++) {
                for (int l = 0; l <= 9; l++) {
                    for (int t = Math.min(k, n); t >= 1; t--) {
                        if (t != l && due[n - t][t] == 0) {
                            due[n][l] = t;
                        }
                    }
                }
            }
            for (int n = 0; n <= 60; n += k == 9 || k == 1 ? 1 : 7) {
                HeldInTrust x = new HeldInTrust();
                for (int l = 0; l <= 9; l++) {
                    check.due("notes(" + n + ", " + k + ", " + l + ")", x.notes(n, k, l), due[n][l]);
                }
            }
        }
    }
}
