/** The edges that promises 24 to 29 name; each test bears the words that it holds to. */
public final class AdmitEdgesTest {
    private static final Check check = new Check();

    public static void main(String[] args) {
        admits();
        admitsOthers();
        plans();
        plansOthers();
        fills();
        order();
        raises();
        grows();
        check.end();
    }

    private static void admits() {
        HeldInTrust x = Check.made("9", "o31;o32;o33");
        check.due("k 0", x.admits(0), 18);
        check.row("they (bits), what goes into THE BOOK", x, 7, 0);
        check.due("k or more going into THE BOOK: 1", x.admits(1), 15);
        check.row("k or more: 3 go", x, 6, 3);
        check.due("k or more going into THE BOOK: 3 itself", x.admits(3), 15);
        check.row("k or more: 3 itself", x, 6, 3);
        check.due("k or more going into THE BOOK: 4", x.admits(4), 9);
        check.row("k or more: 6 go", x, 4, 6);
        check.due("k 9", x.admits(9), 0);
        check.row("k 9: nobody", x, 0, 9);
        Check.songs(x, "8");
        check.due("-2: by none: 9 of 8", x.admits(9), -2);
        check.due("8 of 8", x.admits(8), 0);
        check.row("8 of 8", x, 0, 8);
        x = Check.made("9", "o32;o32;o32");
        check.due("of as good ones the least", x.admits(6), 6);
        check.row("of as good ones the least: not 2, not 4", x, 1, 6);
        check.due("of as good ones the least", x.admits(3), 12);
        check.row("of as good ones the least: not 5, not 6", x, 3, 3);
        x = Check.made("9", "o30;o30");
        check.due("nobody pays: nobody is admitted", x.admits(0), 0);
        check.row("nobody pays: nobody is admitted", x, 0, 9);
        x = Check.made("3", "o32;o32");
        check.due("of as good ones the least: the other one would have nothing", x.admits(0), 6);
        check.row("of as good ones the least", x, 1, 0);
        x = Check.made("0", "o99");
        check.due("a SONG of WORTH 0", x.admits(0), 0);
        check.row("a SONG of WORTH 0", x, 0, 0);
        check.due("a SONG of WORTH 0: by none", x.admits(1), -2);
        check.due("without HEARERS", new HeldInTrust().admits(0), 0);
    }

    private static void admitsOthers() {
        HeldInTrust x = Check.made("9", "o91;o91");
        Check.rule(x, "(c=1)*5");
        x.comes(0);
        x.comes(1);
        check.due("to be PRESENT alone: whoever is now; c is how many they are", x.admits(0), 5);
        check.row("to be PRESENT alone", x, 1, 4);
        Check.rule(x, "(c=2)*4");
        check.due("both together", x.admits(0), 8);
        check.row("both together", x, 3, 1);
        x = Stands.money(9999);
        Check.rule(x, "9");
        check.due("how much is paid, (as tonight()): MONEY is full", x.admits(0), 81);
        check.row("(as tonight())", x, 2, 0);
        x = Check.made("9", "o99;o99;o99;o99;o99;o99;o99;o91");
        Check.rule(x, "(p=1)*9");
        check.due("the eighth alone", x.admits(0), 9);
        check.row("the eighth alone", x, 128, 0);
        check.unchanged("-2: by none", -2, y -> Check.songs(end(y), "1"), y -> y.admits(2));
        check.unchanged("NONE: another k: -1", -1, y -> y.admits(-1));
        check.unchanged("NONE: another k: 10", -1, y -> y.admits(10));
        check.unchanged("NONE: another k: the least", -1, y -> y.admits(Integer.MIN_VALUE));
        check.unchanged("NONE: another k: the greatest", -1, y -> y.admits(Integer.MAX_VALUE));
    }

    private static HeldInTrust end(HeldInTrust x) {
        x.end(0);
        return x;
    }

    private static void plans() {
        HeldInTrust x = Check.made("98", "o91;o82");
        Check.rule(x, "9");
        check.due("k 0: 8 for 2 and the last for 1; 8 for 2", x.plans(0), 16 + 16);
        check.row("they on the first, on the second", x, 2, 2);
        check.due("k 1: one is left by the second on the first", x.plans(1), 32);
        check.row("k 1", x, 2, 2);
        check.due("k 2: the first one alone pays for 9, or 8", x.plans(2), 16);
        check.row("k 2: of as good ones the least row", x, 0, 2);
        check.due("k 9 on both together", x.plans(9), 16);
        check.row("k 9 on both together", x, 0, 2);
        check.due("k 10: less", x.plans(10), 0);
        check.row("k 10: nobody", x, 0, 0);
        check.due("k 17", x.plans(17), 0);
        check.due("-2: by none: 18 of 17", x.plans(18), -2);
        Check.songs(x, "9");
        check.due("k 18", x.plans(18), 0);
        check.row("k 18: nobody", x, 0, 0);
        check.due("k 10 of 18: 8 for 2 on one of both", x.plans(10), 16);
        check.row("k 10 of 18: the least row", x, 0, 2);
        x = Check.made("5", "o51;o51");
        Check.rule(x, "5");
        check.due("of as good ones the least row", x.plans(0), 10);
        check.row("of as good ones the least row: not 2, not 3", x, 1, 1);
        x = Check.made("5", "o50");
        check.due("nobody pays", x.plans(0), 0);
        check.row("nobody pays", x, 0, 0);
        x = Check.made("5", "o51");
        check.due("one alone on both", x.plans(0), 10);
        check.row("one alone on both", x, 1, 1);
        x = Check.made("9", "o31;o54");
        Check.rule(x, "w");
        check.due("each by its own WANT, on both", x.plans(0), 46);
        check.row("each by its own WANT, on both", x, 3, 3);
        check.due("without HEARERS", new HeldInTrust().plans(0), 0);
        check.due("without HEARERS: by none", new HeldInTrust().plans(1), -2);
    }

    private static void plansOthers() {
        HeldInTrust x = Check.made("9", "o93;o92");
        Check.rule(x, "(h<1)*9");
        check.due("what they HEARD on the first counts on the second", x.plans(0), 27 + 18);
        check.row("what they HEARD on the first counts on the second", x, 1, 2);
        Check.songs(x, "59");
        check.due("who was not PRESENT on the first has HEARD nothing", x.plans(0), 10 + 27);
        check.row("who was not PRESENT on the first has HEARD nothing", x, 2, 1);
        Check.songs(x, "9");
        Check.rule(x, "(n=0)*9+(h=9)*9");
        check.due("what they HEARD on the first counts: 9", x.plans(0), 27 + 27);
        check.row("what they HEARD on the first counts: 9", x, 1, 1);
        Check.rule(x, "(h<1)*9");
        x.sheet(2, 2, 1, 0);
        check.due("they have HEARD already", x.plans(0), 0);
        check.row("they have HEARD already", x, 0, 0);
        x = Check.made("9", "o93;o92");
        Check.rule(x, "(h>98)*9");
        x.sheet(2, 2, 99, 0);
        check.due("HEARD is 99 at most between them", x.plans(0), 54);
        check.row("HEARD is 99 at most between them", x, 1, 1);
        x = Check.made("9", "o95;l94");
        Check.rule(x, "(n=0)*9+(h=9)*k*9");
        check.due("the most on both together, not on the first", x.plans(0), 36 + 36);
        check.row("the most on both together, not on the first", x, 2, 2);
        x = Check.made("8", "o11;o12;o11;o11;o11;o11;o11;o11");
        Check.rule(x, "c=8");
        check.due("all eight on both", x.plans(0), 18);
        check.row("all eight on both", x, 255, 255);
        check.due("all eight on one of both", x.plans(1), 9);
        check.row("all eight on one of both: the least row", x, 0, 255);
        x = Check.made("95", "o93");
        Check.rule(x, "(n=0)*9");
        x.nights(6);
        check.due("the next one: NIGHT by 7 (rest), the other SONG", x.plans(0), 15);
        check.row("the next one", x, 0, 1);
        check.unchanged("-2: by none", -2, y -> Check.songs(end(y), "1"), y -> y.plans(3));
        check.unchanged("NONE: another k: -1", -1, y -> y.plans(-1));
        check.unchanged("NONE: another k: 19", -1, y -> y.plans(19));
        check.unchanged("NONE: another k: the least", -1, y -> y.plans(Integer.MIN_VALUE));
        check.unchanged("NONE: another k: the greatest", -1, y -> y.plans(Integer.MAX_VALUE));
    }

    private static void fills() {
        HeldInTrust x = Check.made("9", "o31;o31;o41;o51");
        check.due("The fewest HEARERS", x.fills(), 2);
        check.row("they: 4 and 5", x, 12);
        Check.songs(x, "8");
        check.due("The fewest HEARERS: 8", x.fills(), 2);
        check.row("of as few the least: 3 and 5, the first", x, 9);
        Check.songs(x, "3");
        check.due("just so much", x.fills(), 1);
        check.row("of as few the least", x, 1);
        Check.songs(x, "0");
        check.due("nothing goes into THE BOOK: nobody is needed", x.fills(), 0);
        check.row("nobody is needed", x, 0);
        x.comes(0);
        x.comes(1);
        x.comes(2);
        x.comes(3);
        Check.songs(x, "9");
        check.due("whoever is PRESENT now", x.fills(), 2);
        x = Check.made("9", "o11;o11;o11;o11;o11;o11;o11;o11");
        check.due("-2: by none: eight have 8 of 9", x.fills(), -2);
        Check.songs(x, "8");
        check.due("all eight", x.fills(), 8);
        check.row("all eight", x, 255);
        Check.rule(x, "8-c");
        Check.songs(x, "1");
        check.due("c is how many they are: one MAY have 7, WANT is 1", x.fills(), 1);
        Check.rule(x, "(c=3)");
        Check.songs(x, "3");
        check.due("c is how many they are: three", x.fills(), 3);
        check.row("c is how many they are: three, the least", x, 7);
        check.due("without HEARERS, a SONG of WORTH 0", new HeldInTrust().fills(), 0);
        check.due("without HEARERS: by none", Check.made("1", "").fills(), -2);
        check.unchanged("-2: by none", -2, y -> Check.rule(end(y), "0"), HeldInTrust::fills);
    }

    private static void order() {
        HeldInTrust x = Check.made("5", "o51;o52;o50");
        check.due("in another order, the most MONEY", x.order(), 10);
        check.row("the order: all who are PRESENT, not only those who have something", x, 1, 0, 2);
        x.comes(1);
        check.due("those who are PRESENT", x.order(), 5);
        check.row("those who are PRESENT", x, 0, 2);
        x.comes(0);
        check.due("one alone", x.order(), 0);
        check.row("one alone", x, 2);
        x.comes(2);
        check.due("nobody is PRESENT", x.order(), 0);
        check.row("nobody is PRESENT: no order", x);
        check.due("without HEARERS", new HeldInTrust().order(), 0);
        x = Check.made("4", "o22;o22;o22");
        check.due("as good ones", x.order(), 8);
        check.row("of as good ones the least row", x, 0, 1, 2);
        x = Check.made("4", "o20;o22;o22");
        check.due("two who pay, then one who does not", x.order(), 8);
        check.row("of as good ones the least row", x, 1, 2, 0);
        x = Check.made("6", "o20;o22;o22");
        check.due("enough for all: the least row of all", x.order(), 8);
        check.row("enough for all: the least row of all", x, 0, 1, 2);
        Check.songs(x, "9");
        check.due("more than enough for all", x.order(), 8);
        check.row("more than enough for all: the least row of all", x, 0, 1, 2);
        x = Check.made("9", "o31;o32");
        check.due("more than enough for both", x.order(), 9);
        check.row("more than enough for both: the least row", x, 0, 1);
        x = Check.made("3", "o31;l39;o92");
        Check.rule(x, "(1-k)*9");
        // the second MAY have nothing: it can stand anywhere
        check.due("one who MAY have nothing", x.order(), 6);
        check.row("one who MAY have nothing: the least row", x, 1, 2, 0);
        x = Check.made("0", "o31;o32;o33;o34;o35;o36;o37;o38");
        check.due("a SONG of WORTH 0", x.order(), 0);
        check.row("a SONG of WORTH 0: the least row of all", x, 0, 1, 2, 3, 4, 5, 6, 7);
        Check.songs(x, "9");
        check.due("eight", x.order(), 24 + 21 + 18);
        check.row("eight: 5, 6, 7 first", x, 5, 6, 7, 0, 1, 2, 3, 4);
        x = Stands.money(9999);
        Check.rule(x, "9");
        check.due("that could be paid, whatever MONEY is", x.order(), 81);
        check.row("that could be paid, whatever MONEY is", x, 1, 0);
    }

    private static void raises() {
        HeldInTrust x = Check.made("5", "o91;o92;o92;o90");
        Check.rule(x, "0");
        x.nights(2);
        check.due("MONEY is v already", x.raises(20), 0);
        check.row("-1, if nothing is to be hummed", x, -1);
        check.due("MONEY is more than v: 0", x.raises(0), 0);
        check.row("-1, if nothing is to be hummed", x, -1);
        check.due("one coin is lacking", x.raises(21), 1);
        check.row("of like ones the first", x, 0);
        check.due("two are lacking", x.raises(22), 1);
        check.row("two are lacking: 2 times PAY", x, 0);
        check.due("three are lacking", x.raises(23), 1);
        check.row("three are lacking: of like ones the first", x, 1);
        check.due("four are lacking", x.raises(24), 1);
        check.due("five are lacking", x.raises(25), 2);
        check.row("five are lacking", x, 1);
        check.due("all of THE BOOK, in as many hums", x.raises(60), 10);
        check.row("all of THE BOOK", x, 1);
        check.due("-2: by none: there is not so much in THE BOOK", x.raises(61), -2);
        check.due("-2: by none: 9999", x.raises(9999), -2);
        x.comes(1);
        check.due("one who is not PRESENT, too", x.raises(25), 2);
        check.row("one who is not PRESENT, too", x, 1);
        x = Check.made("5", "o90");
        Check.rule(x, "0");
        x.nights(60);
        check.due("-2: by none: nobody pays", x.raises(21), -2);
        check.due("nobody pays: MONEY is v already", x.raises(20), 0);
        check.due("-2: by none: without HEARERS", Stands.book(9999).raises(21), -2);
        x = Stands.book(9999);
        Check.hearers(x, "o90;o90;o90;o90;o90;o90;o90;o90");
        check.due("-2: by none: eight who do not pay, a full BOOK", x.raises(21), -2);
        x = Stands.book(9999);
        Check.hearers(x, "o90;o90;o90;o90;o90;o90;o90;o91");
        check.due("the eighth one pays", x.raises(9999), 4990);
        check.row("the eighth one pays", x, 7);
        x = Stands.money(9998);
        Check.rule(x, "0");
        x.nights(1);
        check.due("v 9999", x.raises(9999), 1);
        check.row("v 9999", x, 0);
        check.unchanged("-2: by none", -2, y -> y.raises(9999));
        check.unchanged("NONE: another v: -1", -1, y -> y.raises(-1));
        check.unchanged("NONE: another v: 10000", -1, y -> y.raises(10000));
        check.unchanged("NONE: another v: the least", -1, y -> y.raises(Integer.MIN_VALUE));
        check.unchanged("NONE: another v: the greatest", -1, y -> y.raises(Integer.MAX_VALUE));
    }

    private static void grows(String words, int gain, int s, int n, int due, int changed) {
        HeldInTrust x = new HeldInTrust();
        x.gain(gain);
        check.due(words, x.grows(s, n), due);
        check.row(words, x, changed);
        check.due(words + ": STAKE stays", x.count(5), 0);
    }

    private static void grows() {
        grows("s 0", 5, 0, 30, 0, 0);
        grows("n 0", 5, 100, 0, 100, 0);
        grows("n 1", 5, 100, 1, 150, 1);
        grows("(cut to 0) more", 1, 9, 30, 9, 0);
        grows("(cut to 0) more", 1, 19, 1, 20, 1);
        grows("(cut to 0) less", -1, 9, 30, 9, 0);
        grows("(cut to 0) less", -1, 19, 1, 18, 1);
        grows("(cut to 0) less: it stays 1", -5, 1, 30, 1, 0);
        grows("in how many of these weeks they changed: 3, 2, 1", -5, 3, 30, 1, 2);
        grows("GAIN 0", 0, 9999, 30, 9999, 0);
        grows("(0 .. 9999): 9999", 5, 9999, 30, 9999, 0);
        grows("(0 .. 9999): just so much", 1, 9090, 1, 9999, 1);
        grows("(0 .. 9999): more than that", 5, 9000, 30, 9999, 1);
        // 5000, 2500, 1250, 625, 313, 157, 79, 40, 20, 10, 5, 3, 2, 1
        grows("n 30", -5, 9999, 30, 1, 14);
        check.unchanged("NONE: others: s -1", -1, y -> y.grows(-1, 1));
        check.unchanged("NONE: others: s 10000", -1, y -> y.grows(10000, 1));
        check.unchanged("NONE: others: n -1", -1, y -> y.grows(1, -1));
        check.unchanged("NONE: others: n 31", -1, y -> y.grows(1, 31));
        check.unchanged("NONE: others: the least s", -1, y -> y.grows(Integer.MIN_VALUE, 1));
        check.unchanged("NONE: others: the greatest n", -1, y -> y.grows(1, Integer.MAX_VALUE));
    }
}
