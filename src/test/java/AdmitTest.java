/** Promises 24 to 29: whom to admit, orders, hums that raise MONEY, stakes that grow. */
public final class AdmitTest {
    private static final Check check = new Check();

    public static void main(String[] args) {
        admits();
        plans();
        fills();
        orders();
        raises();
        grows();
        check.end();
    }

    private static void admits() {
        HeldInTrust x = Check.made("9", "o41;o43;o35;o25");
        // 3 and 2 for 5 each, 4 for 3; the first takes 4 for 1 ahead of them
        check.due("admits(0)", x.admits(0), 25 + 12);
        check.row("admits(0)", x, 14, 0);
        check.due("admits(1)", x.admits(1), 12 + 15);
        check.row("admits(1)", x, 6, 2);
        check.due("admits(3)", x.admits(3), 25);
        check.row("admits(3)", x, 12, 4);
        check.due("admits(5)", x.admits(5), 15);
        check.row("admits(5)", x, 4, 6);
        check.due("admits(7)", x.admits(7), 10);
        check.row("admits(7)", x, 8, 7);
        check.due("admits(9)", x.admits(9), 0);
        check.row("admits(9)", x, 0, 9);
        check.due("admits(10)", x.admits(10), -1);
        check.due("admits(-1)", x.admits(-1), -1);
        check.row("refused: the row is as it was", x, 0, 9);
        for (int i = 0; i < 4; i++) {
            x.comes(i);
        }
        check.due("whoever is present now", x.admits(0), 37);
        check.due("nobody is", x.count(7), 0);
        Check.songs(x, "5");
        check.due("admits(6)", x.admits(6), -2);
        check.row("by none: the row is as it was", x, 14, 0);
        Check.rule(x, "(c=1)*4");
        // one alone has what it wants
        check.due("admits(0)", x.admits(0), 15);
        check.row("admits(0)", x, 4, 2);
        x = Check.made("9", "o12;o12;o10");
        check.due("the least of as good ones", x.admits(8), 2);
        check.row("the least of as good ones", x, 1, 8);
        check.due("one without pay is left out", x.admits(0), 4);
        check.row("one without pay is left out", x, 3, 7);
    }

    private static void plans() {
        HeldInTrust x = Check.made("45", "o32;o93");
        // 12 by the second alone and 15 by it on the next
        check.due("plans(0)", x.plans(0), 27);
        check.row("plans(0)", x, 2, 2);
        check.due("plans(4)", x.plans(4), 15);
        check.row("plans(4)", x, 0, 2);
        // the first one wants 3: alone it leaves 1 tonight, or 2 on the next night
        check.due("plans(2)", x.plans(2), 12 + 6);
        check.row("plans(2)", x, 2, 1);
        check.due("plans(1)", x.plans(1), 15 + 6);
        check.row("plans(1)", x, 1, 2);
        check.due("plans(9)", x.plans(9), 0);
        check.row("plans(9)", x, 0, 0);
        check.due("plans(10)", x.plans(10), -2);
        check.row("by none: the row is as it was", x, 0, 0);
        check.due("plans(19)", x.plans(19), -1);
        check.due("plans(-1)", x.plans(-1), -1);
        check.due("nothing changed", x.count(2) + x.count(8), 0);
        x = Check.made("99", "o99;o98");
        Check.rule(x, "(h=0)*9");
        // who has heard has nothing the next night: 81 and 72, the least row first
        check.due("another on each", x.plans(0), 81 + 72);
        check.row("another on each", x, 1, 2);
        x = Check.made("99", "o95;l94");
        Check.rule(x, "(n=0)*9+(h=9)*k*9");
        // the first one pays 45 tonight and nothing then; the second one 36 and 36, as it has heard 9
        check.due("the poorer start", x.plans(0), 72);
        check.row("the poorer start", x, 2, 2);
        x = Check.made("99", "o11;o11;o11;o11;o11;o11;o11;o11");
        Check.rule(x, "(c=8)+(n=0)*(c=1)");
        check.due("all eight together", x.plans(0), 16);
        check.row("all eight together", x, 255, 255);
        check.due("all eight together", x.admits(0), 8);
        check.row("all eight together", x, 255, 1);
        check.due("one alone", x.plans(17), 1);
        check.row("one alone", x, 1, 0);
        check.due("nobody", x.plans(18), 0);
        check.row("nobody", x, 0, 0);
        x = Check.made("99", "o99;o98");
        x.nights(6);
        x.sheet(3, 0, 0, 0);
        Check.rule(x, "9*(n=0)");
        check.due("the next night is the first of a week", x.plans(0), 81);
        check.row("the next night is the first of a week", x, 0, 1);
    }

    private static void fills() {
        HeldInTrust x = Check.made("7", "o21;o31;o41;o51");
        check.due("fills", x.fills(), 2);
        check.row("fills", x, 6);
        x.comes(1);
        check.due("whoever is present now", x.fills(), 2);
        check.row("fills", x, 6);
        Check.songs(x, "0");
        check.due("nothing to fill", x.fills(), 0);
        check.row("nothing to fill", x, 0);
        Check.songs(x, "9");
        check.due("fills", x.fills(), 2);
        check.row("fills", x, 12);
        Check.rule(x, "4-c");
        // 3 for one, 2 each for two, 1 each for three
        check.due("by none", x.fills(), -2);
        check.row("by none: the row is as it was", x, 12);
        Check.songs(x, "4");
        check.due("fills", x.fills(), 2);
        check.row("fills", x, 3);
    }

    private static void orders() {
        HeldInTrust x = Check.made("6", "o31;o45;o35;o25;o10");
        // 4 and 2 for 5 each, in whatever order of those who pay 5
        check.due("order", x.order(), 30);
        check.row("order", x, 1, 2, 0, 3, 4);
        x.comes(1);
        check.due("order", x.order(), 26);
        check.row("order", x, 2, 3, 0, 4);
        x.comes(4);
        check.due("order", x.order(), 26);
        check.row("order", x, 2, 3, 0);
        Check.songs(x, "0");
        check.due("nothing is sung", x.order(), 0);
        check.row("nothing is sung", x, 0, 2, 3);
        x.comes(0);
        x.comes(2);
        x.comes(3);
        check.due("nobody", x.order(), 0);
        check.row("nobody", x);
        x = Check.made("9", "o19;o18;w97;o51;o10;l23;c33;o12");
        // 9 + 8 + 5 of 9 or less for 7: (9 - 3) 6 for 7, and 1 for 3
        check.due("order of eight", x.order(), 9 + 8 + 42 + 3);
        check.row("order of eight", x, 0, 1, 2, 5, 3, 4, 6, 7);
        check.due("present stay", x.count(7), 255);
        Check.rule(x, "p-5");
        // those who may have nothing stand anywhere: the least row
        check.due("order of some", x.order(), 9 + 8 + 14);
        check.row("order of some", x, 0, 1, 2, 3, 4, 5, 6, 7);
    }

    private static void raises() {
        HeldInTrust x = Check.made("9", "o12;o15;o15;o10");
        check.due("nothing is to be hummed", x.raises(20), 0);
        check.row("nothing is to be hummed", x, -1);
        check.due("raises(0)", x.raises(0), 0);
        check.due("nothing in the book", x.raises(21), -2);
        check.row("by none: the row is as it was", x, -1);
        Check.rule(x, "0");
        x.nights(2);
        check.due("one is enough", x.raises(21), 1);
        check.row("the first of like ones", x, 0);
        check.due("raises(24)", x.raises(24), 1);
        check.row("raises(24)", x, 0);
        check.due("raises(25)", x.raises(25), 1);
        check.row("raises(25)", x, 1);
        check.due("raises(31)", x.raises(31), 2);
        check.row("raises(31)", x, 1);
        check.due("more than one hum", x.raises(200), 18);
        check.due("more than the book", x.raises(201), -2);
        check.due("raises(10000)", x.raises(10000), -1);
        check.due("raises(-1)", x.raises(-1), -1);
        x.comes(1);
        check.due("present or not", x.raises(31), 2);
        check.row("present or not", x, 1);
        check.due("without hearers", new HeldInTrust().raises(9999), -2);
        x = Check.made("9", "o10");
        x.nights(9);
        check.due("without pay", x.raises(21), -2);
    }

    private static void grows() {
        HeldInTrust x = new HeldInTrust();
        check.due("grows(0, 30)", x.grows(0, 30), 0);
        check.row("grows(0, 30)", x, 0);
        check.due("grows(100, 0)", x.grows(100, 0), 100);
        check.row("grows(100, 0)", x, 0);
        check.due("grows(19, 3)", x.grows(19, 3), 24);
        check.row("grows(19, 3)", x, 3);
        check.due("grows(9, 30)", x.grows(9, 30), 9);
        check.row("grows(9, 30)", x, 0);
        check.due("grows(9998, 3)", x.grows(9998, 3), 9999);
        check.row("grows(9998, 3)", x, 1);
        check.due("grows(9999, 30)", x.grows(9999, 30), 9999);
        check.row("grows(9999, 30)", x, 0);
        x.gain(-5);
        check.due("grows(9, 2)", x.grows(9, 2), 3);
        check.row("9, 5, 3", x, 2);
        check.due("grows(9, 30)", x.grows(9, 30), 1);
        check.row("9, 5, 3, 2, 1", x, 4);
        x.gain(0);
        check.due("grows(50, 5)", x.grows(50, 5), 50);
        check.row("grows(50, 5)", x, 0);
        check.due("grows(-1, 1)", x.grows(-1, 1), -1);
        check.due("grows(10000, 1)", x.grows(10000, 1), -1);
        check.due("grows(1, -1)", x.grows(1, -1), -1);
        check.due("grows(1, 31)", x.grows(1, 31), -1);
        check.due("the stake stays", x.count(5), 0);
    }
}
