/** Promises 10 to 17: what is done on nights and between them, and undone. */
public final class NightsTest {
    private static final Check check = new Check();

    public static void main(String[] args) {
        nights();
        limits();
        comes();
        hums();
        stakes();
        advances();
        springs();
        springFaults();
        undos();
        check.end();
    }

    private static void nights() {
        HeldInTrust x = Check.made("93", "o42;l31;w99");
        check.due("nights(0)", x.nights(0), 0);
        check.row("nights(0)", x, 0, 0);
        check.due("no night, nothing to undo", x.count(12), 0);
        // 9: o may have 4, l 3, w 6 of which 2 are left: 8 + 3 + 18
        check.due("nights(1)", x.nights(1), 0);
        check.row("nights(1)", x, 29, 0);
        check.due("count(4)", x.count(4), 49);
        check.due("heard of w", x.hearer(2, 3), 2);
        // 3: o has 3
        check.due("nights(1)", x.nights(1), 0);
        check.row("nights(1)", x, 6, 0);
        check.due("night", x.count(2), 2);
        check.due("nights(-1)", x.nights(-1), -1);
        check.due("nights(61)", x.nights(61), -1);
        check.row("refused", x, 6, 0);
        x.comes(0);
        x.comes(1);
        // nights 2 to 6: w has 6 of 9, 0 of 3, 6 of 9 (h is 8), 0 of 3, 5 of 9 (h is 14)
        check.due("nights(5)", x.nights(5), 3 + 3 + 3 + 3 + 4);
        check.row("nights(5)", x, 9 * 17, 0);
        check.due("heard of w", x.hearer(2, 3), 19);
        x = Check.made("5", "");
        x.stake(19);
        check.due("six nights", x.nights(6), 30);
        check.row("six nights", x, 0, 19);
        x.nights(1);
        check.row("the seventh", x, 0, 20);
        x.gain(-1);
        x.nights(7);
        check.row("a tenth less", x, 0, 18);
        x.gain(-4);
        x.nights(7);
        check.row("cut to 0", x, 0, 11);
        x.gain(0);
        x.nights(14);
        check.row("no gain", x, 0, 11);
    }

    private static void limits() {
        HeldInTrust x = Check.made("9", "o99");
        Check.rule(x, "9");
        x.nights(11);
        check.due("99 at most is heard", x.hearer(0, 3), 99);
        x.nights(1);
        check.due("99 at most is heard", x.hearer(0, 3), 99);
        check.due("it is paid nevertheless", x.count(4), 20 + 12 * 81);
        x.nights(60);
        x.nights(51);
        check.due("ahead of the limit", x.count(4), 20 + 123 * 81);
        x.nights(1);
        check.row("at the limit: so much more MONEY is", x, 9999 - 20 - 123 * 81, 0);
        x.tonight();
        check.row("whatever both have already", x, 81, 0);
        check.due("9999", x.count(4), 9999);
        check.due("the stake takes all", x.stake(9999), 9999);
        x.nights(7);
        check.due("the stake has its limit", x.count(5), 9999);
        check.due("money", x.count(4), 7 * 81);
        check.due("more than 9999", x.stake(1), -3);
        check.due("there is not so much first", x.stake(9999), -2);
        x.nights(60);
        x.nights(60);
        check.due("money is full", x.count(4), 9999);
        check.due("back to more than 9999", x.stake(-1), -3);
        check.due("back to more than 9999", x.stake(-9999), -3);
        check.due("undo the nights", x.undo(), 8);
        x.undo();
        check.due("back to 9999", x.stake(x.count(4) - 9999), x.count(4) + x.count(5) - 9999);
        check.due("money", x.count(4), 9999);
        check.due("undo it", x.undo(), 7);
        x.nights(60);
        x.nights(60);
        x.gain(-5);
        x.nights(7);
        check.due("half the stake", x.count(5), 5000);
        check.due("not so much", x.stake(-5001), -2);
        x = Check.made("9", "");
        for (int i = 0; i < 18; i++) {
            x.nights(60);
        }
        check.due("the book", x.nights(31), 9999);
        check.due("is full", x.nights(1), 9999);
        x.tonight();
        check.row("still goes into the book", x, 0, 9);
        check.due("a quarter", x.advance(2499), 7500);
    }

    private static void comes() {
        HeldInTrust x = Check.made("9", "o11;o11;o11");
        check.due("comes(1)", x.comes(1), 2);
        check.due("count(7)", x.count(7), 5);
        check.due("comes(0)", x.comes(0), 1);
        check.due("comes(1)", x.comes(1), 2);
        check.due("count(7)", x.count(7), 6);
        check.due("comes(3)", x.comes(3), -1);
        check.due("comes(-1)", x.comes(-1), -1);
        check.due("comes(32)", x.comes(32), -1);
        check.due("count(12)", x.count(12), 3);
    }

    private static void hums() {
        HeldInTrust x = Check.made("9", "o13;o90");
        Check.rule(x, "0");
        x.nights(2);
        x.comes(0);
        check.due("hum", x.hum(0, 9), 20 + 2 * 3 * 9);
        check.due("book", x.count(3), 9);
        check.due("heard", x.hearer(0, 3), 9);
        check.due("surcharged", x.hearer(0, 4), 1);
        check.due("without pay", x.hum(1, 4), 74);
        check.due("not so much", x.hum(1, 6), -2);
        check.due("hum(1, 10)", x.hum(1, 10), -1);
        check.due("hum(1, 0)", x.hum(1, 0), -1);
        check.due("hum(2, 1)", x.hum(2, 1), -1);
        check.due("hum(-1, 1)", x.hum(-1, 1), -1);
        check.due("hum(2, 99)", x.hum(2, 99), -1);
        check.due("nothing of it was done", x.count(12), 4);
        check.due("surcharged of all", x.count(9), 2);
        for (int i = 0; i < 2; i++) {
            x.nights(60);
        }
        for (int i = 0; i < 105; i++) {
            x.hum(0, 9);
        }
        check.due("heard, 99 at most", x.hearer(0, 3), 99);
        check.due("surcharged, 99 at most", x.hearer(0, 4), 99);
        check.due("money", x.count(4), 74 + 105 * 54);
        x.stake(5000);
        x.stake(-4000);
        for (int i = 0; i < 15; i++) {
            x.nights(60);
        }
        for (int i = 0; i < 110; i++) {
            x.hum(0, 9);
        }
        check.due("money, 9999 at most", x.hum(0, 9), 9999);
    }

    private static void stakes() {
        HeldInTrust x = new HeldInTrust();
        check.due("stake(5)", x.stake(5), 5);
        check.due("money", x.count(4), 15);
        check.due("stake(16)", x.stake(16), -2);
        check.due("stake(15)", x.stake(15), 20);
        check.due("stake(-21)", x.stake(-21), -2);
        check.due("stake(-20)", x.stake(-20), 0);
        check.due("money", x.count(4), 20);
        check.due("stake(0)", x.stake(0), -1);
        check.due("stake(10000)", x.stake(10000), -1);
        check.due("stake(-10000)", x.stake(-10000), -1);
        check.due("stake(min)", x.stake(Integer.MIN_VALUE), -1);
        check.due("stake(9999)", x.stake(9999), -2);
        check.due("gain(5)", x.gain(5), 11);
        check.due("gain(-5)", x.gain(-5), 15);
        check.due("gain(-5)", x.gain(-5), 5);
        check.due("gain(6)", x.gain(6), -1);
        check.due("gain(-6)", x.gain(-6), -1);
        check.due("count(6)", x.count(6), 5);
        check.due("done: three stakes, three gains", x.count(12), 6);
    }

    private static void advances() {
        HeldInTrust x = Check.made("7", "");
        x.nights(1);
        check.due("a quarter of 7, cut", x.advance(2), -2);
        check.due("advance(1)", x.advance(1), 6);
        check.due("advance(1)", x.advance(1), 5);
        check.due("advance(1)", x.advance(1), 4);
        check.due("advance(1)", x.advance(1), 3);
        check.due("advance(1) of 3", x.advance(1), -2);
        check.due("advance(0)", x.advance(0), -1);
        check.due("advance(-1)", x.advance(-1), -1);
        check.due("advance(10000)", x.advance(10000), -1);
        check.due("advance(9999)", x.advance(9999), -2);
        check.due("count(12)", x.count(12), 5);
    }

    private static void springs() {
        HeldInTrust x = Check.made("9", "o12;o13");
        check.due("n1c0n0h11s5b2a1", Check.spring(x, "n1c0n0h11s5b2a1"), 7);
        // 7 go into the book, 5 are paid; 1 is hummed for 6; 3 are staked
        check.row("spring", x, 0, 20 + 5 + 6 - 3);
        check.due("book", x.count(3), 7 - 1 - 1);
        check.due("stake", x.count(5), 3);
        check.due("present", x.count(7), 2);
        check.due("as one", x.count(12), 1);
        check.due("stops", Check.spring(x, "c0c9c1"), 1);
        check.row("stops", x, 1, 28);
        check.due("c1 was not done", x.count(7), 3);
        check.due("as one", x.count(12), 2);
        check.due("nothing done", Check.spring(x, "h00"), 0);
        check.row("nothing done", x, 1, 28);
        check.due("h of none such", Check.spring(x, "h51"), 0);
        check.due("a of too much", Check.spring(x, "a9"), 0);
        check.due("b of too much", Check.spring(x, "b9"), 0);
        check.due("nothing to undo of these", x.count(12), 2);
        check.due("empty", Check.spring(x, ""), 0);
        check.row("empty", x, 0, 28);
        check.due("nothing to undo of it", x.count(12), 2);
        check.due("n0 is an act that is done", Check.spring(x, "n0"), 1);
        check.row("n0", x, 0, 28);
        check.due("it can be undone", x.count(12), 3);
        check.due("undo", x.undo(), 2);
        check.due("undo", x.undo(), 1);
        check.due("present", x.count(7), 2);
        check.due("undo", x.undo(), 0);
        check.due("money", x.count(4), 20);
        check.due("present", x.count(7), 3);
        check.due("night", x.count(2), 0);
        check.due("sixty signs", Check.spring(x, "c0".repeat(30)), 30);
        check.due("sixty signs in threes", Check.spring(x, "n1" + "n1n1" + "h01".repeat(18)), 21);
    }

    private static void springFaults() {
        HeldInTrust x = Check.made("9", "o12;o13");
        x.tonight();
        String[] springs = {
            "x", "1", "n", "nx", "c", "h", "h1", "h1x", "hx", "s", "s0", "b0", "a0", "a", "n1;", "n1c", "n12", "N1", "n1h0", "n1h00s0",
            "c0".repeat(30) + "c", "c0".repeat(30) + "?", "c0".repeat(30) + "c0", "c0".repeat(29) + "h1", "c0".repeat(29) + "h11",
            "c0".repeat(29) + "x0c0", "n" + "1".repeat(70),
        };
        int[] places = {
            0, 0, 1, 1, 1, 1, 2, 2, 1, 1, 1, 1, 1, 1, 2, 3, 2, 0, 4, 6,
            60, 60, 60, 60, 60,
            58, 2,
        };
        for (int i = 0; i < springs.length; i++) {
            check.due("spring " + springs[i], Check.spring(x, springs[i]), -1 - places[i]);
            check.due("the text is empty", x.count(14), 0);
        }
        check.due("nothing was done", x.count(12), 0);
        check.due("night", x.count(2), 0);
        check.due("present", x.count(7), 3);
        check.row("the row is as it was", x, 5, 7);
    }

    private static void undos() {
        HeldInTrust x = Check.made("9", "o12;o13");
        check.due("none", x.undo(), -1);
        for (int i = 1; i <= 13; i++) {
            x.nights(1);
            check.due("count(12)", x.count(12), Math.min(12, i));
        }
        for (int i = 11; i >= 0; i--) {
            check.due("undo", x.undo(), i);
            check.due("night", x.count(2), i + 1);
            check.due("book", x.count(3), 7 * (i + 1));
            check.due("money", x.count(4), 20 + 5 * (i + 1));
            check.due("heard", x.count(8), 2 * (i + 1));
        }
        check.due("none is left", x.undo(), -1);
        x.stake(4);
        x.gain(3);
        x.hum(1, 2);
        x.advance(1);
        check.due("undo the advance", x.undo(), 3);
        check.due("book", x.count(3), 5);
        check.due("undo the hum", x.undo(), 2);
        check.due("book", x.count(3), 7);
        check.due("surcharged", x.count(9), 0);
        check.due("heard", x.hearer(1, 3), 1);
        check.due("undo the gain", x.undo(), 1);
        check.due("gain", x.count(6), 11);
        check.due("undo the stake", x.undo(), 0);
        check.due("stake", x.count(5), 0);
        check.due("money", x.count(4), 25);
        x.comes(0);
        x.sheet(2, 2, 50, 5);
        check.due("undo what was ahead of a sheet", x.undo(), 0);
        check.due("all of hearers are as ahead of it", x.count(8), 2);
        x.nights(1);
        Check.songs(x, "3");
        Check.rule(x, "0");
        check.due("songs and rules forget nothing", x.count(12), 1);
        check.due("an empty hearers() forgets nothing", Check.hearers(x, ""), 0);
        check.due("count(12)", x.count(12), 1);
        check.due("a wrong hearers() forgets nothing", Check.hearers(x, "x"), -1);
        check.due("count(12)", x.count(12), 1);
        check.due("hearers() forgets them", Check.hearers(x, "o11"), 1);
        check.due("count(12)", x.count(12), 0);
        check.due("undo", x.undo(), -1);
        x.keep(0);
        x.nights(1);
        check.due("a wrong again() forgets nothing", x.again(1), false);
        check.due("count(12)", x.count(12), 1);
        check.due("again() forgets them", x.again(0), true);
        check.due("count(12)", x.count(12), 0);
    }
}
