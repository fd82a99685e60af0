/** The edges that promises 18 to 23 name; each test bears the words that it holds to. */
public final class LaterEdgesTest {
    private static final Check check = new Check();

    public static void main(String[] args) {
        tonight();
        later();
        laterLimits();
        enough();
        drains();
        hears();
        quiet();
        check.end();
    }

    private static void tonight() {
        HeldInTrust x = Check.made("6", "o31;o32;o33");
        check.due("Who has something (bits): nothing is left for the third", x.tonight(), 3);
        check.row("MONEY that is paid, what goes into THE BOOK: nothing", x, 9, 0);
        x.comes(0);
        x.comes(1);
        check.due("one alone", x.tonight(), 4);
        check.row("MONEY that is paid, what goes into THE BOOK", x, 9, 3);
        x.comes(2);
        check.due("nobody is PRESENT", x.tonight(), 0);
        check.row("nobody is PRESENT: all goes into THE BOOK", x, 0, 6);
        check.due("without HEARERS", new HeldInTrust().tonight(), 0);
        x = Check.made("6", "o30;o31");
        Check.rule(x, "p*2");
        check.due("who MAY have nothing is not in it", x.tonight(), 2);
        Check.rule(x, "3");
        check.due("who pays nothing is in it", x.tonight(), 3);
        check.row("who pays nothing", x, 3, 0);
        x = Stands.money(9999);
        Check.rule(x, "5");
        check.due("(whatever both have already): MONEY is full", x.tonight(), 3);
        check.row("(whatever both have already): MONEY is full", x, 46, 3);
        x = Stands.book(9999);
        x.tonight();
        check.row("(whatever both have already): THE BOOK is full", x, 0, 9);
        x = Check.made("9", "o91");
        x.sheet(2, 1, 99, 0);
        Check.rule(x, "4");
        check.due("HEARD is full already", x.tonight(), 1);
        check.row("HEARD is full already", x, 4, 5);
    }

    private static void later() {
        HeldInTrust x = Check.made("5", "o23");
        Check.rule(x, "2");
        x.stake(10);
        check.due("in n NIGHTS: 0", x.later(0), 0);
        check.row("MONEY, STAKE then: 0", x, 10, 10);
        check.due("in n NIGHTS: 1", x.later(1), 3);
        check.row("MONEY, STAKE then: 1", x, 16, 10);
        check.due("in n NIGHTS: 6", x.later(6), 18);
        check.row("MONEY, STAKE then: 6", x, 46, 10);
        check.due("in n NIGHTS: 7", x.later(7), 21);
        check.row("MONEY, STAKE then: 7", x, 52, 11);
        check.due("in n NIGHTS: 99", x.later(99), 297);
        // 14 weeks: 10, 11, .. by ones up to 20 behind ten, then 22, 24, 26, 28
        check.row("MONEY, STAKE then: 99", x, 10 + 594, 28);
        check.due("nothing changed", x.count(2) + x.count(3) + x.count(8) + x.count(12), 1);
        check.unchanged("NONE: another n: 100", -1, y -> y.later(100));
        check.unchanged("NONE: another n: -1", -1, y -> y.later(-1));
        check.unchanged("NONE: another n: the least", -1, y -> y.later(Integer.MIN_VALUE));
        check.unchanged("NONE: another n: the greatest", -1, y -> y.later(Integer.MAX_VALUE));
    }

    private static void laterLimits() {
        HeldInTrust x = Stands.book(9990);
        check.due("BOOK in n NIGHTS: 9999", x.later(1), 9999);
        check.due("BOOK in n NIGHTS: 9999 at most", x.later(2), 9999);
        check.due("BOOK in n NIGHTS: it is not full now", x.count(3), 9990);
        x = Stands.money(9998);
        x.later(1);
        check.row("MONEY then: 9999 at most", x, 9999, 0);
        x.stake(9998);
        x.later(99);
        check.due("STAKE then: 9999 at most", x.row(1), 9999);
    }

    private static void enough() {
        HeldInTrust x = Check.made("5", "o23");
        Check.rule(x, "2");
        check.due("v (0 .. 9999): 0: in no NIGHT", x.enough(0), 0);
        check.row("MONEY then: now", x, 20);
        check.due("1", x.enough(1), 1);
        check.row("MONEY then", x, 26);
        check.due("v or more: v itself", x.enough(3), 1);
        check.due("v or more: one above", x.enough(4), 2);
        check.row("MONEY then", x, 32);
        check.due("In how many NIGHTS: 98", x.enough(294), 98);
        check.due("In how many NIGHTS: 99", x.enough(295), 99);
        check.due("In how many NIGHTS: 99", x.enough(297), 99);
        check.row("MONEY then: 99", x, 20 + 594);
        check.due("-2: in none of these", x.enough(298), -2);
        check.due("-2: in none of these: 9999", x.enough(9999), -2);
        x.nights(1);
        check.due("it has so much now", x.enough(3), 0);
        check.due("a NIGHT nearer", x.enough(298), 99);
        x = Stands.book(9990);
        check.due("9999 itself", x.enough(9999), 1);
        x = Stands.book(9999);
        check.due("9999 now", x.enough(9999), 0);
        check.due("a new object: 1 in none of these", new HeldInTrust().enough(1), -2);
        check.unchanged("-2: in none of these", -2, y -> y.enough(9999));
        check.unchanged("NONE: another v: -1", -1, y -> y.enough(-1));
        check.unchanged("NONE: another v: 10000", -1, y -> y.enough(10000));
        check.unchanged("NONE: another v: the least", -1, y -> y.enough(Integer.MIN_VALUE));
        check.unchanged("NONE: another v: the greatest", -1, y -> y.enough(Integer.MAX_VALUE));
    }

    private static void drains() {
        HeldInTrust x = Check.made("9", "o31;o41");
        check.due("the most more", x.drains(), 1);
        check.row("how much more", x, 4);
        x = Check.made("9", "o41;o41");
        check.due("of equal ones the first", x.drains(), 0);
        check.row("of equal ones the first", x, 4);
        x = Check.made("4", "o41;o41");
        check.due("of equal ones the first: nothing more", x.drains(), 0);
        check.row("of equal ones the first: nothing more", x, 0);
        x.comes(0);
        check.due("who is not PRESENT is none", x.drains(), 1);
        check.row("who is not PRESENT is none", x, 4);
        x.comes(1);
        check.due("-2: nobody is PRESENT", x.drains(), -2);
        check.due("-2: nobody is PRESENT: without HEARERS", new HeldInTrust().drains(), -2);
        check.unchanged("-2: nobody is PRESENT", -2, y -> {
            y.comes(0);
            y.comes(2);
        }, HeldInTrust::drains);
        x = Check.made("9", "o91;o91;o91");
        Check.rule(x, "(c=2)*4");
        check.due("were it not PRESENT: c is one less", x.drains(), 0);
        check.row("less: below 0", x, -8);
        x = Check.made("9", "o91;o91;o21");
        Check.rule(x, "(c<3)*4");
        // three have nothing; without the first 4 and 2, without the third 4 and 4
        check.due("were it not PRESENT: c is one less, the most is the least bad", x.drains(), 0);
        check.row("the most is the least bad", x, -6);
        x = Stands.book(9999);
        Check.hearers(x, "o91");
        check.due("more would go, whatever THE BOOK has", x.drains(), 0);
        check.row("more would go, whatever THE BOOK has", x, 9);
    }

    private static void hears() {
        HeldInTrust x = Check.made("5", "o13;o21");
        Check.rule(x, "w");
        check.due("v (0 .. 99): 0: in no NIGHT", x.hears(0, 0), 0);
        check.row("BOOK then: now", x, 0);
        check.due("1", x.hears(0, 1), 1);
        check.row("BOOK then", x, 2);
        check.due("v or more: v itself", x.hears(1, 2), 1);
        check.due("v or more: one above", x.hears(1, 3), 2);
        check.due("In how many NIGHTS: 98", x.hears(0, 98), 98);
        check.due("In how many NIGHTS: 99", x.hears(0, 99), 99);
        check.row("BOOK then: 99", x, 198);
        check.due("HEARD 99", x.hears(1, 99), 50);
        Check.songs(x, "11111111111110");
        check.due("-2: in none of these", x.hears(0, 99), -2);
        check.due("In 99: 92", x.hears(0, 92), 99);
        check.due("-2: in none of these: 93", x.hears(0, 93), -2);
        x.comes(0);
        check.due("one who is not PRESENT", x.hears(0, 1), -2);
        check.due("one who is not PRESENT has HEARD 0", x.hears(0, 0), 0);
        x.sheet(2, 2, 50, 0);
        check.due("one who is not PRESENT has HEARD 50", x.hears(0, 50), 0);
        check.due("one who is not PRESENT has HEARD 50", x.hears(0, 51), -2);
        check.unchanged("-2: in none of these", -2, y -> y.hears(1, 99));
        check.unchanged("NONE: others: v -1", -1, y -> y.hears(0, -1));
        check.unchanged("NONE: others: v 100", -1, y -> y.hears(0, 100));
        check.unchanged("NONE: others: HEARER 4 of 4", -1, y -> y.hears(4, 1));
        check.unchanged("NONE: others: HEARER -1", -1, y -> y.hears(-1, 1));
        check.unchanged("NONE: others: HEARER 8", -1, y -> y.hears(8, 1));
        check.due("NONE: others: without HEARERS", new HeldInTrust().hears(0, 0), -1);
    }

    private static void quiet() {
        HeldInTrust x = Check.made("10010001", "o11");
        Check.rule(x, "1");
        check.due("of the next n: 0", x.quiet(0), 0);
        check.row("-1, if there are none", x, -1);
        check.due("of the next n: 1", x.quiet(1), 0);
        check.row("-1, if there are none", x, -1);
        check.due("of the next n: 2", x.quiet(2), 1);
        check.row("the first of these", x, 1);
        check.due("of the next n: 3", x.quiet(3), 2);
        check.row("the first of these", x, 1);
        check.due("as many in another place", x.quiet(6), 2);
        check.row("as many in another place: the first", x, 1);
        check.due("more in another place", x.quiet(7), 3);
        check.row("more in another place", x, 4);
        check.due("of the next n: 60", x.quiet(60), 3);
        check.row("of the next n: 60: the first", x, 4);
        x.nights(1);
        check.due("0 this one", x.quiet(2), 2);
        check.row("0 this one", x, 0);
        x = Check.made("9", "o11");
        x.comes(0);
        check.due("nobody has anything: all", x.quiet(60), 60);
        check.row("nobody has anything: all", x, 0);
        check.due("a new object", new HeldInTrust().quiet(60), 60);
        x = Check.made("9", "o11");
        Check.rule(x, "h<3");
        check.due("as all goes on: HEARD grows", x.quiet(60), 57);
        check.row("as all goes on: HEARD grows", x, 3);
        x = Check.made("9", "o10");
        check.due("one who pays nothing has something", x.quiet(5), 0);
        check.unchanged("NONE: another n: -1", -1, y -> y.quiet(-1));
        check.unchanged("NONE: another n: 61", -1, y -> y.quiet(61));
        check.unchanged("NONE: another n: the least", -1, y -> y.quiet(Integer.MIN_VALUE));
        check.unchanged("NONE: another n: the greatest", -1, y -> y.quiet(Integer.MAX_VALUE));
    }
}
