/** Promises 30 to 35: sums of accounts, awards, envy, bold stakes, a game of notes. */
public final class AccountsTest {
    private static final Check check = new Check();

    public static void main(String[] args) {
        adds();
        nearest();
        awards();
        envy();
        bold();
        notes();
        check.end();
    }

    private static void adds() {
        HeldInTrust x = Stands.heard(3, 5, 8, 5, 0);
        check.due("adds(8)", x.adds(8), 1);
        check.row("adds(8)", x, 4);
        check.due("adds(5)", x.adds(5), 1);
        check.row("adds(5)", x, 2);
        check.due("adds(13)", x.adds(13), 2);
        check.row("adds(13)", x, 6);
        check.due("adds(10)", x.adds(10), 2);
        check.row("adds(10)", x, 10);
        check.due("adds(21)", x.adds(21), 4);
        check.row("adds(21)", x, 15);
        check.due("adds(0)", x.adds(0), 0);
        check.row("adds(0)", x, 0);
        check.due("adds(4)", x.adds(4), -2);
        check.row("none: the row is as it was", x, 0);
        check.due("adds(999)", x.adds(999), -2);
        check.due("adds(1000)", x.adds(1000), -1);
        check.due("adds(-1)", x.adds(-1), -1);
        x = Stands.heard(99, 99, 99, 99, 99, 99, 99, 99);
        check.due("adds(792)", x.adds(792), 8);
        check.row("adds(792)", x, 255);
    }

    private static void nearest() {
        HeldInTrust x = Stands.heard(4, 10, 4, 0);
        check.due("nearest(9)", x.nearest(9), 8);
        check.row("nearest(9): of two the lesser", x, 5);
        check.due("nearest(7)", x.nearest(7), 8);
        check.due("nearest(5)", x.nearest(5), 4);
        check.row("nearest(5)", x, 1);
        check.due("nearest(0)", x.nearest(0), 0);
        check.row("nearest(0): the fewest", x, 0);
        check.due("nearest(2)", x.nearest(2), 0);
        check.row("nearest(2)", x, 0);
        check.due("nearest(3)", x.nearest(3), 4);
        check.row("nearest(3)", x, 1);
        check.due("nearest(14)", x.nearest(14), 14);
        check.row("nearest(14)", x, 3);
        check.due("nearest(999)", x.nearest(999), 18);
        check.row("nearest(999)", x, 7);
        check.due("nearest(1000)", x.nearest(1000), -1);
        check.due("nearest(-1)", x.nearest(-1), -1);
        check.row("refused: the row is as it was", x, 7);
    }

    private static void awards() {
        HeldInTrust x = Stands.heard(3, 0, 1, 3);
        check.due("awards(0)", x.awards(0), 0);
        check.row("awards(0)", x, 0, 0, 0, 0, 0);
        check.due("awards(2)", x.awards(2), 1);
        check.row("awards(2)", x, 1, 0, 1, 0, 0);
        check.due("awards(4)", x.awards(4), 2);
        check.row("awards(4)", x, 2, 0, 1, 1, 0);
        check.due("awards(7)", x.awards(7), 3);
        check.row("awards(7)", x, 3, 0, 1, 3, 0);
        check.due("awards(999)", x.awards(999), 3);
        check.row("awards(999)", x, 3, 0, 1, 3, 992);
        check.due("awards(1000)", x.awards(1000), -1);
        check.due("awards(-1)", x.awards(-1), -1);
        HeldInTrust none = new HeldInTrust();
        check.due("without hearers", none.awards(7), 0);
        check.row("without hearers", none, 7);
        x = Stands.heard(99, 99, 99, 99, 99, 99, 99, 99);
        check.due("awards(793)", x.awards(793), 99);
        check.row("awards(793)", x, 99, 99, 99, 99, 99, 99, 99, 99, 1);
    }

    private static void envy() {
        HeldInTrust x = Stands.heard(4, 7, 1, 7, 1);
        check.due("envy", x.envy(), 6);
        check.row("envy", x, 1, 2);
        x = Stands.heard(2, 2, 2);
        check.due("no envy", x.envy(), 0);
        check.row("no envy", x, 0, 1);
        HeldInTrust one = Check.made("9", "o91");
        one.tonight();
        check.due("one alone", one.envy(), -2);
        check.row("one alone: the row is as it was", one, 9, 0);
        check.due("nobody", new HeldInTrust().envy(), -2);
    }

    private static void bold() {
        HeldInTrust x = new HeldInTrust();
        check.due("bold(1, 2, 1, 3)", x.bold(1, 2, 1, 3), 0);
        check.row("all at once", x, 3, 10, 1);
        x.bold(1, 4, 2, 5);
        check.row("twice all", x, 1, 4, 1);
        x.bold(1, 5, 2, 5);
        check.row("not to be had", x, 0, 1, 0);
        x.bold(2, 3, 2, 5);
        // 1 staked: 1/2, else 1 coin is left, which can be 2 at most; nothing staked: as much by the second throw
        check.row("2 to 3 in two", x, 1, 2, 0);
        x.bold(2, 3, 2, 6);
        check.row("2 to 3 in two by six tenths", x, 3, 5, 0);
        x.bold(3, 4, 2, 6);
        // 1 staked: 6/10 + 4/10 of (2 to 4: 6/10)
        check.row("3 to 4 in two: 84 by 100", x, 21, 25, 1);
        x.bold(20, 20, 8, 0);
        check.row("nothing is staked", x, 1, 1, 0);
        x.bold(1, 20, 8, 10);
        // sure to win: 1, 2, 4, .. in five throws; with 8 there is time to wait
        check.row("sure to win", x, 1, 1, 0);
        x.bold(1, 20, 5, 10);
        check.row("sure to win in five", x, 1, 1, 1);
        x.bold(1, 20, 4, 10);
        check.row("four are too few", x, 0, 1, 0);
        x.bold(11, 20, 1, 7);
        check.row("the least stake", x, 7, 10, 9);
        x.bold(7, 20, 0, 7);
        check.row("no throw", x, 0, 1, -1);
        x.bold(20, 20, 0, 7);
        check.row("no throw, enough", x, 1, 1, -1);
        int[][] others = {{-1, 1, 1, 1}, {21, 1, 1, 1}, {1, 0, 1, 1}, {1, 21, 1, 1}, {1, 1, -1, 1}, {1, 1, 9, 1}, {1, 1, 1, -1}, {1, 1, 1, 11}};
        for (int[] o : others) {
            check.due("bold of " + o[0] + " " + o[1] + " " + o[2] + " " + o[3], x.bold(o[0], o[1], o[2], o[3]), -1);
        }
        check.due("refused: the row is as it was", x.count(13), 3);
    }

    private static void notes() {
        HeldInTrust x = new HeldInTrust();
        // one by one: who takes the first leaves the other one without a note that may be taken
        check.due("notes(5, 1, 0)", x.notes(5, 1, 0), 1);
        check.due("notes(5, 1, 1)", x.notes(5, 1, 1), 0);
        check.due("notes(0, 9, 0)", x.notes(0, 9, 0), 0);
        check.due("notes(9, 9, 0)", x.notes(9, 9, 0), 9);
        check.due("notes(1, 9, 1)", x.notes(1, 9, 1), 0);
        check.due("a number above k that was taken", x.notes(3, 3, 9), 3);
        check.due("notes(2, 2, 0)", x.notes(2, 2, 0), 1);
        check.due("notes(2, 2, 1)", x.notes(2, 2, 1), 2);
        // three by two: 1 leaves 2 (the other takes 2), 2 leaves 1 (the other takes 1)
        check.due("notes(3, 2, 0)", x.notes(3, 2, 0), 0);
        // four by two: 1 leaves 3, of which the other must take 2, and the last is had
        check.due("notes(4, 2, 0)", x.notes(4, 2, 0), 1);
        // 2 leaves 2, of which the other takes 1, and 1 may not be taken
        check.due("notes(4, 2, 1)", x.notes(4, 2, 1), 0);
        int[][] others = {{-1, 1, 0}, {61, 1, 0}, {1, 0, 0}, {1, 10, 0}, {1, 1, -1}, {1, 1, 10}};
        for (int[] o : others) {
            check.due("notes of " + o[0] + " " + o[1] + " " + o[2], x.notes(o[0], o[1], o[2]), -1);
        }
        check.due("no row is told", x.count(13), 0);
    }
}
