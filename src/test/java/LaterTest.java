/** Promises 18 to 23: tonight and later, nothing being done. */
public final class LaterTest {
    private static final Check check = new Check();

    public static void main(String[] args) {
        tonight();
        later();
        drains();
        hears();
        quiet();
        check.end();
    }

    private static void tonight() {
        HeldInTrust x = Check.made("8", "o32;w91;l45;c99");
        // o has 3, w (8 - 3) 5 of 5: nothing is left for l and c
        check.due("tonight", x.tonight(), 3);
        check.row("tonight", x, 11, 0);
        x.comes(1);
        // o has 3, l 4, c 1
        check.due("tonight", x.tonight(), 13);
        check.row("tonight", x, 6 + 20 + 9, 0);
        check.due("nothing changed", x.count(8), 0);
        Check.rule(x, "c-2");
        // three are present: one each
        check.due("tonight", x.tonight(), 13);
        check.row("tonight", x, 2 + 5 + 9, 5);
        Check.rule(x, "p-4");
        check.due("tonight", x.tonight(), 12);
        check.row("tonight", x, 5 + 45, 2);
        check.due("night", x.count(2), 0);
    }

    private static void later() {
        HeldInTrust x = Check.made("4", "o13");
        x.stake(10);
        check.due("later(0)", x.later(0), 0);
        check.row("later(0)", x, 10, 10);
        check.due("later(7)", x.later(7), 21);
        check.row("later(7)", x, 31, 11);
        check.due("later(14)", x.later(14), 42);
        check.row("later(14)", x, 52, 12);
        // v - k - h / 10 is 1 as long as less than 40 are heard: 40 NIGHTS
        check.due("later(99)", x.later(99), 40 * 3 + 59 * 4);
        check.due("later(100)", x.later(100), -1);
        check.due("later(-1)", x.later(-1), -1);
        check.due("nothing changed", x.count(2), 0);
        check.due("enough(0)", x.enough(0), 0);
        check.row("enough(0)", x, 10);
        check.due("enough(3)", x.enough(3), 1);
        check.row("enough(3)", x, 13);
        check.due("enough(4)", x.enough(4), 2);
        check.row("enough(4)", x, 16);
        check.due("enough in 99", x.enough(40 * 3 + 59 * 4), 99);
        check.row("enough in 99", x, 10 + 120);
        check.due("enough in 100", x.enough(40 * 3 + 59 * 4 + 1), -2);
        check.row("in none: the row is as it was", x, 10 + 120);
        check.due("enough(9999)", x.enough(9999), -2);
        check.due("enough(10000)", x.enough(10000), -1);
        check.due("enough(-1)", x.enough(-1), -1);
        check.due("nothing changed", x.count(3), 0);
    }

    private static void drains() {
        HeldInTrust x = Check.made("9", "o31;o51;o31;o11");
        // 3, 5, 1: without the first 5, 3, 1; without the second 3, 3, 1
        check.due("drains", x.drains(), 1);
        check.row("drains", x, 2);
        x.comes(1);
        // 3, 3, 1
        check.due("of equal ones the first", x.drains(), 0);
        check.row("drains", x, 3);
        x.comes(0);
        x.comes(2);
        x.comes(3);
        check.due("nobody", x.drains(), -2);
        check.row("nobody: the row is as it was", x, 3);
        x.comes(0);
        x.comes(1);
        // the fewer are present the more each may have
        Check.rule(x, "3-c");
        check.due("two have 1 each, one 2", x.drains(), 0);
        check.row("no more", x, 0);
        Check.rule(x, "(c=1)*9");
        check.due("two have nothing; without the second the first has 3", x.drains(), 1);
        check.row("less", x, -3);
        check.due("nothing changed", x.count(7), 3);
    }

    private static void hears() {
        HeldInTrust x = Check.made("50", "o51;l33");
        Check.rule(x, "2+k");
        check.due("hears(0, 0)", x.hears(0, 0), 0);
        check.row("hears(0, 0)", x, 0);
        check.due("hears(0, 2)", x.hears(0, 2), 1);
        check.due("hears(0, 3)", x.hears(0, 3), 3);
        check.due("hears(1, 99)", x.hears(1, 99), 65);
        check.due("hears(0, 99)", x.hears(0, 99), 99);
        check.row("hears(0, 99)", x, 0);
        x.comes(1);
        check.due("hears(1, 1)", x.hears(1, 1), -2);
        check.due("hears(0, 4)", x.hears(0, 4), 3);
        check.row("hears(0, 4)", x, 6);
        check.due("hears(2, 1)", x.hears(2, 1), -1);
        check.due("hears(-1, 1)", x.hears(-1, 1), -1);
        check.due("hears(0, 100)", x.hears(0, 100), -1);
        check.due("hears(0, -1)", x.hears(0, -1), -1);
        check.row("refused: the row is as it was", x, 6);
        check.due("nothing changed", x.count(8), 0);
        x.nights(1);
        check.due("a night later", x.hears(0, 99), 98);
    }

    private static void quiet() {
        HeldInTrust x = Check.made("0110010001", "o11");
        check.due("quiet(0)", x.quiet(0), 0);
        check.row("quiet(0)", x, -1);
        check.due("quiet(1)", x.quiet(1), 1);
        check.row("quiet(1)", x, 0);
        check.due("quiet(4)", x.quiet(4), 1);
        check.row("the first of like ones", x, 0);
        check.due("quiet(5)", x.quiet(5), 2);
        check.row("quiet(5)", x, 3);
        check.due("quiet(60)", x.quiet(60), 37);
        // having HEARD 10 it has nothing of a SONG of WORTH 1 more: night 22 is the tenth
        check.row("quiet(60)", x, 23);
        check.due("quiet(61)", x.quiet(61), -1);
        check.due("quiet(-1)", x.quiet(-1), -1);
        x.nights(1);
        check.due("quiet(2)", x.quiet(2), 0);
        check.row("quiet(2)", x, -1);
        check.due("night", x.count(2), 1);
    }
}
