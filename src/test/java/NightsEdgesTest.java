/** The edges that promises 10 to 17 name; each test bears the words that it holds to. */
public final class NightsEdgesTest {
    private static final Check check = new Check();

    public static void main(String[] args) {
        nights();
        comes();
        hums();
        humsRefused();
        humLimits();
        stakes();
        stakesRefused();
        gains();
        advances();
        springTexts();
        springActs();
        springStops();
        kept();
        keptOnlyIfDone();
        undone();
        forgotten();
        check.end();
    }

    private static void nights() {
        HeldInTrust x = Check.made("5", "o23");
        Check.rule(x, "2");
        check.due("n NIGHTS: 0", x.nights(0), 0);
        check.row("the ROW: MONEY more in these, STAKE: of 0", x, 0, 0);
        check.due("n NIGHTS: 0: NIGHT stays", x.count(2), 0);
        check.due("n NIGHTS: 1", x.nights(1), 3);
        check.row("the ROW: MONEY more in these, STAKE: of 1", x, 6, 0);
        check.due("n NIGHTS: 60", x.nights(60), 183);
        check.row("the ROW: MONEY more in these, STAKE: of 60", x, 360, 0);
        check.due("n NIGHTS: 60", x.count(2), 61);
        check.due("n NIGHTS: 0 behind some", x.nights(0), 183);
        check.row("MONEY more in these, not in all", x, 0, 0);
        x.stake(10);
        x.nights(2);
        check.row("STAKE: ahead of the seventh", x, 12, 11);
        check.unchanged("Refused: another n: -1", -1, y -> y.nights(-1));
        check.unchanged("Refused: another n: 61", -1, y -> y.nights(61));
        check.unchanged("Refused: another n: the least", -1, y -> y.nights(Integer.MIN_VALUE));
        check.unchanged("Refused: another n: the greatest", -1, y -> y.nights(Integer.MAX_VALUE));
        x = Stands.money(9990);
        check.due("MONEY more in these: a limit is ahead", x.count(4), 9990);
        Check.songs(x, "9");
        x.comes(0);
        x.nights(1);
        check.row("MONEY more in these: 9999 at most", x, 9, 0);
        x.nights(1);
        check.row("MONEY more in these: no more", x, 0, 0);
    }

    private static void comes() {
        HeldInTrust x = Check.made("5", "o11;o11");
        check.due("A HEARER goes: how many are PRESENT then", x.comes(1), 1);
        check.due("A HEARER goes: bits", x.count(7), 1);
        check.due("the last one goes", x.comes(0), 0);
        check.due("nobody is there", x.count(7), 0);
        check.due("or comes", x.comes(1), 1);
        check.due("or comes: bits", x.count(7), 2);
        check.unchanged("NONE: none such: 4 of 4", -1, y -> y.comes(4));
        check.unchanged("NONE: none such: 8", -1, y -> y.comes(8));
        check.unchanged("NONE: none such: -1", -1, y -> y.comes(-1));
        check.unchanged("NONE: none such: 32", -1, y -> y.comes(32));
        check.unchanged("NONE: none such: the least", -1, y -> y.comes(Integer.MIN_VALUE));
        check.due("NONE: none such: without HEARERS", new HeldInTrust().comes(0), -1);
        x = Check.made("5", "o11;o11;o11;o11;o11;o11;o11;o11");
        check.due("the eighth one goes", x.comes(7), 7);
        check.due("the eighth one goes: bits", x.count(7), 127);
    }

    /** One HEARER of PAY 3 who has nothing by nights, and one without PAY; BOOK is 10. */
    private static HeldInTrust ten() {
        HeldInTrust x = Check.made("5", "o93;l90");
        Check.rule(x, "0");
        x.nights(2);
        return x;
    }

    private static void hums() {
        HeldInTrust x = ten();
        check.due("hums 1: MONEY", x.hum(0, 1), 26);
        check.due("so much less of it", x.count(3), 9);
        check.due("HEARD more", x.hearer(0, 3), 1);
        check.due("SURCHARGED once more", x.hearer(0, 4), 1);
        check.due("hums 9: all of THE BOOK", x.hum(0, 9), 80);
        check.due("so much less of it: nothing is left", x.count(3), 0);
        check.due("HEARD more", x.hearer(0, 3), 10);
        check.due("SURCHARGED once more, whatever n is", x.hearer(0, 4), 2);
        check.due("-2: there is not so much in THE BOOK: 1 of 0", x.hum(0, 1), -2);
        x = ten();
        x.hum(0, 2);
        check.due("-2: there is not so much in THE BOOK: 9 of 8", x.hum(0, 9), -2);
        check.due("8 of 8", x.hum(0, 8), 80);
        x = ten();
        check.due("without PAY", x.hum(1, 9), 20);
        check.due("without PAY: SURCHARGED", x.hearer(1, 4), 1);
        x.comes(0);
        check.due("one who is not PRESENT", x.hum(0, 1), 26);
    }

    private static void humsRefused() {
        check.unchanged("-2: there is not so much in THE BOOK", -2, y -> y.hum(0, 2));
        check.unchanged("-2: there is not so much in THE BOOK: 9", -2, y -> y.hum(3, 9));
        check.unchanged("NONE: others: n 0", -1, y -> y.hum(0, 0));
        check.unchanged("NONE: others: n 10", -1, y -> y.hum(0, 10));
        check.unchanged("NONE: others: n -1", -1, y -> y.hum(0, -1));
        check.unchanged("NONE: others: the least n", -1, y -> y.hum(0, Integer.MIN_VALUE));
        check.unchanged("NONE: others: the greatest n", -1, y -> y.hum(0, Integer.MAX_VALUE));
        check.unchanged("NONE: others: HEARER 4 of 4", -1, y -> y.hum(4, 1));
        check.unchanged("NONE: others: HEARER 4 of 4, too much", -1, y -> y.hum(4, 9));
        check.unchanged("NONE: others: HEARER -1", -1, y -> y.hum(-1, 1));
        check.unchanged("NONE: others: HEARER 8", -1, y -> y.hum(8, 1));
        check.due("NONE: others: without HEARERS", Stands.book(9).hum(0, 1), -1);
        HeldInTrust x = ten();
        check.due("NONE: others: n 10 of 10", x.hum(0, 10), -1);
    }

    private static void humLimits() {
        HeldInTrust x = Stands.heard(91);
        check.due("HEARD more: 98", x.hum(0, 7), 20 + 2 * 98);
        check.due("HEARD more: 98", x.hearer(0, 3), 98);
        x.hum(0, 1);
        check.due("HEARD more: 99", x.hearer(0, 3), 99);
        check.due("(HEARD more, 99 at most): MONEY is more", x.hum(0, 9), 20 + 2 * 108);
        check.due("HEARD more, 99 at most", x.hearer(0, 3), 99);
        x = Stands.heard(95);
        x.hum(0, 9);
        check.due("HEARD more, 99 at most: from 95", x.hearer(0, 3), 99);
        x = ten();
        x.nights(60);
        for (int i = 1; i <= 98; i++) {
            x.hum(0, 1);
        }
        check.due("SURCHARGED once more: 98", x.hearer(0, 4), 98);
        x.hum(0, 1);
        check.due("SURCHARGED once more: 99", x.hearer(0, 4), 99);
        check.due("(99 at most): MONEY is more", x.hum(0, 1), 20 + 600);
        check.due("SURCHARGED once more (99 at most)", x.hearer(0, 4), 99);
        check.due("SURCHARGED once more (99 at most): of all", x.count(9), 99);
        x = Stands.money(9945);
        Check.rule(x, "0");
        x.nights(60);
        check.due("MONEY more: 9999 itself", x.hum(1, 3), 9999);
        check.due("MONEY more (9999 at most)", x.hum(1, 1), 9999);
        check.due("MONEY more (9999 at most): THE BOOK is less", x.count(3), 540 - 4);
        x = Stands.money(9944);
        Check.rule(x, "0");
        x.nights(60);
        check.due("MONEY more: 9998", x.hum(1, 3), 9998);
        check.due("MONEY more (9999 at most)", x.hum(0, 1), 9999);
    }

    private static void stakes() {
        HeldInTrust x = new HeldInTrust();
        check.due("n of MONEY goes to STAKE: 1", x.stake(1), 1);
        check.due("n of MONEY goes to STAKE: MONEY", x.count(4), 19);
        check.due("-2: there is not so much: 20 of 19", x.stake(20), -2);
        check.due("all of MONEY", x.stake(19), 20);
        check.due("all of MONEY: none is left", x.count(4), 0);
        check.due("-2: there is not so much: 1 of 0", x.stake(1), -2);
        check.due("or back: -1", x.stake(-1), 19);
        check.due("or back: MONEY", x.count(4), 1);
        check.due("-2: there is not so much: 20 back of 19", x.stake(-20), -2);
        check.due("all of STAKE back", x.stake(-19), 0);
        check.due("-2: there is not so much: 1 back of 0", x.stake(-1), -2);
        check.due("-2: there is not so much: 9999", x.stake(9999), -2);
        check.due("-2: there is not so much: 9999 back", x.stake(-9999), -2);
        x = Stands.money(9999);
        check.due("9999 goes to STAKE", x.stake(9999), 9999);
        check.due("9999 goes to STAKE: MONEY", x.count(4), 0);
        check.due("9999 back", x.stake(-9999), 0);
        check.due("9999 back: MONEY", x.count(4), 9999);
        check.due("half of it", x.stake(5000), 5000);
        x.gain(0);
        x.nights(60);
        check.due("MONEY has grown", x.count(4) > 9000, true);
        check.due("-3: there would be more than 9999 of STAKE: 5000 and 5000", x.stake(5000), -3);
        check.due("9999 of STAKE", x.stake(4999), 9999);
        check.due("-3: there would be more than 9999 of STAKE: 9999 and 1", x.stake(1), -3);
        x = Stands.money(9999);
        x.stake(100);
        x.nights(60);
        check.due("MONEY is full", x.count(4), 9999);
        check.due("-3: there would be more than 9999 of MONEY", x.stake(-1), -3);
        check.due("-3: STAKE stays", x.count(5) > 100, true);
        x = Stands.money(9900);
        x.stake(100);
        x.gain(5);
        Check.songs(x, "0");
        x.nights(21);
        int more = x.count(5);
        check.due("STAKE has grown above 199", more > 199, true);
        check.due("-3: there would be more than 9999 of MONEY: 200 back", x.stake(-200), -3);
        check.due("back till MONEY is 9999", x.stake(-199), more - 199);
        check.due("back till MONEY is 9999", x.count(4), 9999);
        check.due("-2 ahead of -3: there is not so much, and would be too much", x.stake(-9999), -2);
        x = Stands.money(9999);
        x.stake(9990);
        check.due("-2 ahead of -3: there is not so much, and would be too much", x.stake(10), -2);
        check.due("MONEY and STAKE to the last", x.stake(9), 9999);
    }

    private static void stakesRefused() {
        check.unchanged("-2: there is not so much of MONEY", -2, y -> y.stake(163));
        check.unchanged("-2: there is not so much of STAKE", -2, y -> y.stake(-12));
        check.unchanged("NONE: others: 0", -1, y -> y.stake(0));
        check.unchanged("NONE: others: 10000", -1, y -> y.stake(10000));
        check.unchanged("NONE: others: -10000", -1, y -> y.stake(-10000));
        check.unchanged("NONE: others: the least", -1, y -> y.stake(Integer.MIN_VALUE));
        check.unchanged("NONE: others: the greatest", -1, y -> y.stake(Integer.MAX_VALUE));
        HeldInTrust x = Stands.money(9999);
        x.stake(9999);
        x.nights(2);
        int money = x.count(4);
        int undos = x.count(12);
        check.due("-3 changes nothing", x.stake(1), -3);
        check.due("-3 changes nothing: STAKE", x.count(5), 9999);
        check.due("-3 changes nothing: MONEY", x.count(4), money);
        check.due("-3 changes nothing: what can be undone", x.count(12), undos);
    }

    private static void gains() {
        HeldInTrust x = new HeldInTrust();
        check.due("10 and what it was: at first", x.gain(-5), 11);
        check.due("-5", x.count(6), 5);
        check.due("10 and what it was: -5", x.gain(5), 5);
        check.due("5", x.count(6), 15);
        check.due("10 and what it was: 5", x.gain(0), 15);
        check.due("10 and what it was: 0", x.gain(0), 10);
        check.unchanged("NONE: others: 6", -1, y -> y.gain(6));
        check.unchanged("NONE: others: -6", -1, y -> y.gain(-6));
        check.unchanged("NONE: others: the least", -1, y -> y.gain(Integer.MIN_VALUE));
        check.unchanged("NONE: others: the greatest", -1, y -> y.gain(Integer.MAX_VALUE));
    }

    private static void advances() {
        int[][] quarters = {{0, 0}, {1, 0}, {3, 0}, {4, 1}, {7, 1}, {8, 2}, {11, 2}, {12, 3}, {9998, 2499}, {9999, 2499}};
        for (int[] q : quarters) {
            HeldInTrust x = Stands.book(q[0]);
            check.due("-2: it is more than that: of " + q[0], x.advance(q[1] + 1), -2);
            check.due("-2: nothing changes", x.count(3), q[0]);
            if (q[1] > 0) {
                check.due("a quarter of it (cut) at most: of " + q[0], x.advance(q[1]), q[0] - q[1]);
                check.due("MONEY stays", x.count(4), 20);
            }
        }
        check.unchanged("-2: it is more than that", -2, y -> y.advance(1));
        check.unchanged("-2: it is more than that: 9999", -2, y -> y.advance(9999));
        check.unchanged("NONE: others: 0", -1, y -> y.advance(0));
        check.unchanged("NONE: others: -1", -1, y -> y.advance(-1));
        check.unchanged("NONE: others: 10000", -1, y -> y.advance(10000));
        check.unchanged("NONE: others: the least", -1, y -> y.advance(Integer.MIN_VALUE));
        check.unchanged("NONE: others: the greatest", -1, y -> y.advance(Integer.MAX_VALUE));
    }

    private static void springTexts() {
        check.fault("the sign at p can't stand there: no ACT", -1, "x", HeldInTrust::spring);
        check.fault("the sign at p can't stand there: a digit", -1, "1", HeldInTrust::spring);
        check.fault("the sign at p can't stand there: a great letter", -1, "N1", HeldInTrust::spring);
        check.fault("without signs between", -3, "n1;n1", HeldInTrust::spring);
        check.fault("without signs between: a blank", -3, "n1 n1", HeldInTrust::spring);
        String[] letters = {"n", "c", "s", "b", "a"};
        for (String letter : letters) {
            check.fault("its end, if it ends too early", -2, letter, HeldInTrust::spring);
            check.fault("and a digit", -2, letter + "x", HeldInTrust::spring);
            check.fault("and a digit: one alone", -3, letter + "11", HeldInTrust::spring);
            check.fault("its end, if it ends too early, behind another ACT", -4, "c0" + letter, HeldInTrust::spring);
        }
        check.fault("h: its end, if it ends too early", -2, "h", HeldInTrust::spring);
        check.fault("h: its end, if it ends too early", -3, "h1", HeldInTrust::spring);
        check.fault("h and two digits", -2, "hx1", HeldInTrust::spring);
        check.fault("h and two digits", -3, "h1x", HeldInTrust::spring);
        check.fault("h and two digits: no three", -4, "h111", HeldInTrust::spring);
        check.fault("s and a digit 1 .. 9: 0", -2, "s0", HeldInTrust::spring);
        check.fault("b and a digit 1 .. 9: 0", -2, "b0", HeldInTrust::spring);
        check.fault("a and a digit 1 .. 9: 0", -2, "a0", HeldInTrust::spring);
        check.fault("nothing is done then", -6, "c0n1s0", HeldInTrust::spring);
        check.fault("nothing is done then: its end", -6, "c0n1s", HeldInTrust::spring);
        String sixty = "c0".repeat(30);
        check.fault("60 signs: 60, if it has more and the first 60 could end", -61, sixty + "c0", HeldInTrust::spring);
        check.fault("60 signs: 60, whatever is behind", -61, sixty + "?", HeldInTrust::spring);
        check.fault("60 signs: 60, of 80", -61, sixty + "c0".repeat(10), HeldInTrust::spring);
        check.fault("60 signs: 60, if the first 60 could go on", -61, "h01" + "c0".repeat(28) + "c1", HeldInTrust::spring);
        check.fault("60 signs: its end at 60, if it ends too early", -61, "h01" + "c0".repeat(28) + "c", HeldInTrust::spring);
        check.fault("60 signs: a fault ahead of 60", -59, "c0".repeat(29) + "x0c0", HeldInTrust::spring);
        check.fault("60 signs: a fault ahead of 60", -60, "c0".repeat(29) + "cxc0", HeldInTrust::spring);
        HeldInTrust x = Check.made("9", "o11");
        check.due("60 signs: 60", Check.spring(x, sixty), 30);
        check.due("n0 can stand there", Check.spring(x, "n0"), 1);
        check.due("c0 can stand there", Check.spring(x, "c0"), 1);
        check.due("h00 can stand there", Check.spring(x, "h00"), 0);
    }

    private static void springActs() {
        HeldInTrust x = Stands.rich();
        x.end(0);
        HeldInTrust twin = Stands.rich();
        twin.end(0);
        twin.nights(0);
        int money = x.count(4);
        check.due("(an empty one: nothing)", x.spring(), 0);
        check.row("(an empty one): 0; MONEY then", x, 0, money);
        x.tonight();
        twin.tonight();
        check.same("(an empty one: nothing)", Stands.seen(x), Stands.seen(twin));
        x = Check.made("9", "o93;l42");
        Check.rule(x, "k");
        check.due("n9: nine NIGHTS", Check.spring(x, "n9"), 1);
        check.row("n9: l has 1 each", x, 0, 20 + 18);
        check.due("n9: nine NIGHTS", x.count(2) * 100 + x.count(3), 972);
        check.due("c1: it goes", Check.spring(x, "c1"), 1);
        check.due("c1: it goes", x.count(7), 1);
        check.due("h09: 9 by HEARER 0", Check.spring(x, "h09"), 1);
        check.row("h09: 2 times 3 for each", x, 0, 38 + 54);
        check.due("h11: 1 by HEARER 1, not 11", Check.spring(x, "h11"), 1);
        check.row("h11", x, 0, 92 + 4);
        check.due("h11: THE BOOK", x.count(3), 62);
        check.due("s9, b1: STAKE", Check.spring(x, "s9b1"), 2);
        check.due("s9, b1: STAKE", x.count(5), 8);
        check.row("s9, b1", x, 0, 88);
        check.due("a9: THE BOOK", Check.spring(x, "a9"), 1);
        check.due("a9: THE BOOK", x.count(3), 53);
    }

    private static void springStops() {
        HeldInTrust x = Check.made("9", "o93");
        Check.rule(x, "0");
        String[] first = {"c1", "c9", "h00", "h11", "h91", "h01", "b1", "a1"};
        for (String act : first) {
            check.due("till one can't be (it answers below 0): " + act, Check.spring(x, act + "n1"), 0);
            check.row("1 if one could not be: " + act, x, 1, 20);
            check.due("none was done: " + act, x.count(2) + x.count(12), 0);
        }
        check.due("how many were done: ahead of one that can't be", Check.spring(x, "n1h09h01c0"), 2);
        check.row("1 if one could not be; MONEY then", x, 1, 74);
        check.due("the one behind was not done", x.count(7), 1);
        check.due("those ahead stay done", x.count(9), 1);
        check.due("the last one could not be", Check.spring(x, "c0s9s9s9s9s9s9s9s9s9"), 9);
        check.row("the last one could not be", x, 1, 2);
        check.due("the last one could be", Check.spring(x, "s2"), 1);
        check.row("0: all could be", x, 0, 0);
        check.due("s9: there is not so much", Check.spring(x, "s9"), 0);
        check.row("s9: there is not so much", x, 1, 0);
        x = Stands.money(9999);
        x.stake(9999);
        x.nights(1);
        check.due("s1: there would be more than 9999", Check.spring(x, "c0s1c0"), 1);
        check.due("s1: there would be more than 9999", x.row(0), 1);
    }

    private static void kept() {
        HeldInTrust x = Check.made("1", "");
        check.due("Refused: none", x.undo(), -1);
        for (int i = 1; i <= 12; i++) {
            x.nights(1);
            check.due("of 12 that are kept: " + i, x.count(12), i);
        }
        x.nights(1);
        check.due("of 12 that are kept: a thirteenth", x.count(12), 12);
        x.nights(1);
        check.due("of 12 that are kept: a fourteenth", x.count(12), 12);
        for (int left = 11; left >= 0; left--) {
            check.due("how many are left that can be", x.undo(), left);
            check.due("the latest ones", x.count(2), left + 2);
        }
        check.due("Refused: none, the first two are not kept", x.undo(), -1);
        check.due("Refused: none", x.count(2), 2);
        x.nights(1);
        check.due("one behind them", x.undo(), 0);
        check.due("one behind them", x.count(2), 2);
        check.unchanged("Refused: none", -1, y -> {
            for (int i = 0; i < 7; i++) {
                y.undo();
            }
        }, HeldInTrust::undo);
    }

    private static void keptOnlyIfDone() {
        HeldInTrust x = Check.made("9", "o11");
        x.nights(0);
        check.due("nights() of 1 and more: nights(0)", x.count(12), 0);
        x.nights(-1);
        x.comes(1);
        x.hum(0, 9);
        x.hum(0, 0);
        x.stake(0);
        x.stake(21);
        x.stake(-1);
        x.gain(6);
        x.advance(1);
        x.advance(0);
        check.due("such as were done: refused ones, -2", x.count(12), 0);
        Check.spring(x, "");
        Check.spring(x, "c1c0");
        Check.spring(x, "n");
        check.due("spring() of which one ACT was done: none was", x.count(12), 0);
        x.sheet(2, 1, 1, 0);
        x.look(1, 1);
        x.told(0, 0);
        x.keep(0);
        Check.songs(x, "9");
        Check.rule(x, "1");
        x.tonight();
        x.later(9);
        x.years(1, 9);
        check.due("others are not undone", x.count(12), 0);
        x.nights(1);
        check.due("nights(1)", x.count(12), 1);
        x.comes(0);
        check.due("comes()", x.count(12), 2);
        x.hum(0, 1);
        check.due("hum()", x.count(12), 3);
        x.stake(1);
        check.due("stake()", x.count(12), 4);
        x.stake(-1);
        check.due("stake() back", x.count(12), 5);
        x.gain(1);
        check.due("gain(), though it stays as it was", x.count(12), 6);
        x.advance(1);
        check.due("advance()", x.count(12), 7);
        Check.spring(x, "c0c0c0");
        check.due("spring(), as one", x.count(12), 8);
        Check.spring(x, "c0c1");
        check.due("spring() of which one ACT was done, one not", x.count(12), 9);
        Check.spring(x, "n0");
        check.due("spring() of n0, an ACT that was done", x.count(12), 10);
    }

    private static void act(HeldInTrust x, int act) {
        switch (act) {
            case 0: x.nights(8); break;
            case 1: x.comes(1); break;
            case 2: x.hum(0, 2); break;
            case 3: x.stake(5); break;
            case 4: x.gain(-3); break;
            case 5: x.advance(2); break;
            default: Check.spring(x, "n2c0h12s3a1n7");
        }
    }

    /** Each ACT behind each other one: all is as ahead of the latter, then as ahead of the former. */
    private static void undone() {
        String[] acts = {"nights()", "comes()", "hum()", "stake()", "gain()", "advance()", "spring()"};
        for (int first = 0; first < acts.length; first++) {
            for (int then = 0; then < acts.length; then++) {
                HeldInTrust x = Check.made("9", "o93;l11");
                Check.rule(x, "5");
                x.stake(10);
                x.nights(6);
                int[] ahead = counts(x);
                act(x, first);
                int[] between = counts(x);
                act(x, then);
                String words = acts[then] + " behind " + acts[first];
                check.due(words + " is undone: how many are left", x.undo(), 3);
                same("BOOK, MONEY, STAKE, GAIN, NIGHT, all of HEARERS are as ahead of " + words, x, between);
                check.due(acts[first] + " is undone: how many are left", x.undo(), 2);
                same("BOOK, MONEY, STAKE, GAIN, NIGHT, all of HEARERS are as ahead of " + acts[first], x, ahead);
            }
        }
        notBroughtBack();
    }

    private static int[] counts(HeldInTrust x) {
        int[] counts = new int[16];
        for (int what = 0; what < 10; what++) {
            counts[what] = x.count(what);
        }
        for (int i = 0; i < 6; i++) {
            counts[10 + i] = x.hearer(i % 2, 3 + i / 2);
        }
        return counts;
    }

    private static void same(String words, HeldInTrust x, int[] due) {
        int[] counts = counts(x);
        for (int i = 0; i < due.length; i++) {
            check.due(words + ": " + (i < 10 ? "count(" + i + ")" : "hearer " + (i - 10)), counts[i], due[i]);
        }
    }

    private static void notBroughtBack() {
        HeldInTrust x = Check.made("9", "o93;l11");
        x.nights(1);
        Check.songs(x, "12");
        Check.rule(x, "1");
        x.look(1, 1);
        x.told(0, 0);
        Check.say(x, "abc");
        x.tonight();
        String row = Stands.row(x);
        x.undo();
        check.due("SONGS are not brought back", x.count(0), 2);
        check.due("THE RULE is not brought back", x.hearer(0, 6), 1);
        check.due("looks are not brought back", x.count(10), 1);
        check.due("what was told is not brought back", x.count(11), 1);
        check.due("THE TEXT is not brought back", x.count(14), 3);
        check.same("the ROW is not brought back", Stands.row(x), row);
    }

    private static void forgotten() {
        HeldInTrust x = Check.made("9", "o93;l11");
        x.keep(0);
        x.comes(0);
        x.comes(0);
        check.due("an empty hearers() does not", Check.hearers(x, ""), 0);
        check.due("an empty hearers() does not", x.count(12), 2);
        check.due("hearers(), if they are not refused: refused", Check.hearers(x, "o1"), -3);
        check.due("hearers(), if they are not refused: refused", x.count(12), 2);
        check.due("again(), if they are not refused: refused", x.again(1), false);
        check.due("again(), if they are not refused: refused", x.count(12), 2);
        check.due("again() forgets them", x.again(0), true);
        check.due("again() forgets them", x.count(12), 0);
        check.due("again() forgets them", x.undo(), -1);
        x.comes(0);
        x.comes(1);
        check.due("again() refused, as HEARERS came: hearers() forgets them", Check.hearers(x, "o11"), 1);
        check.due("hearers() forgets them", x.count(12), 0);
        check.due("hearers() forgets them", x.undo(), -1);
        check.due("hearers() forgets them: nobody came back", x.count(7), 4);
        x.comes(0);
        check.due("again(), if they are not refused: HEARERS came", x.again(0), false);
        check.due("again(), if they are not refused: HEARERS came", x.count(12), 1);
        check.due("what was done since can be undone", x.undo(), 0);
        check.due("what was done since can be undone", x.count(7), 4);
    }
}
