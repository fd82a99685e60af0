/** The edges that promises 1 to 9 name; each test bears the words that it holds to. */
public final class SongsEdgesTest {
    private static final Check check = new Check();

    public static void main(String[] args) {
        newObject();
        signs();
        ends();
        songs();
        lines();
        roomForLines();
        rules();
        everySign();
        hearer();
        worth();
        sheetEntries();
        sheetRefusals();
        check.end();
    }

    private static void newObject() {
        HeldInTrust x = new HeldInTrust();
        check.due("No HEARERS", x.count(1), 0);
        check.due("No HEARERS: nobody is PRESENT", x.count(7), 0);
        check.noHearer(x, 0, 0);
        check.due("one SONG of WORTH 0", x.count(0), 1);
        check.due("one SONG of WORTH 0: this one", x.worth(0), 0);
        check.due("one SONG of WORTH 0: all", x.worth(99), 0);
        check.due("nothing in THE TEXT", x.count(14), 0);
        check.due("nothing to undo", x.undo(), -1);
        check.due("nothing kept", x.again(0) || x.again(1), false);
    }

    private static void signs() {
        HeldInTrust x = new HeldInTrust();
        check.due("Four signs come behind THE TEXT: how many it has", x.sign(0x31323334), 4);
        check.due("of v the highest byte first", x.songs(), 4);
        for (int n = 0; n < 4; n++) {
            check.due("of v the highest byte first: worth(" + n + ")", x.worth(n), n + 1);
        }
        x.sign(0x31000000);
        x.end(1);
        check.due("behind THE TEXT: behind one sign", x.sign(0x32333435), 5);
        check.due("behind THE TEXT: five songs", x.songs(), 5);
        check.due("behind THE TEXT: the first one", x.worth(0), 1);
        check.due("behind THE TEXT: the last one", x.worth(4), 5);
        x.sign(-1);
        check.due("a v below 0 has four signs, too", x.count(14), 4);
        check.due("a v below 0 has four signs, too", x.songs(), -1);
        x.sign(0xb1313131);
        check.due("a byte above 127 is a sign of its own, no 1", x.songs(), -1);
        for (int i = 1; i <= 20; i++) {
            check.due("up to 80", x.sign(0x31313131), 4 * i);
        }
        check.due("Refused: there would be more than 80: 84", x.sign(0x32323232), -1);
        check.due("Refused: there would be more than 80: it stays", x.count(14), 80);
        for (int had = 76; had <= 80; had++) {
            x.end(0);
            for (int i = 0; i < 20; i++) {
                x.sign(0x31313131);
            }
            x.end(had);
            check.due("Refused: there would be more than 80: behind " + had, x.sign(0x32323232), had == 76 ? 80 : -1);
            check.due("Refused: nothing changes: behind " + had, x.count(14), had == 76 ? 80 : had);
        }
        check.unchanged("Refused: there would be more than 80", -1, y -> Check.say(y, "1".repeat(72)), y -> y.sign(7));
        x.end(0);
        x.sign(0x35353535);
        for (int i = 1; i < 20; i++) {
            x.sign(0x31313131);
        }
        x.sign(0x36363636);
        x.end(4);
        x.songs();
        check.due("a refused sign leaves the first ones", x.worth(0), 5);
    }

    private static void ends() {
        HeldInTrust x = new HeldInTrust();
        check.due("end(0) of an empty text", x.end(0), true);
        check.due("false if it has not so many: 1 of 0", x.end(1), false);
        x.sign(0x31323334);
        check.due("false if it has not so many: 5 of 4", x.end(5), false);
        check.due("false if it has not so many: most", x.end(Integer.MAX_VALUE), false);
        check.due("or n is below 0: -1", x.end(-1), false);
        check.due("or n is below 0: least", x.end(Integer.MIN_VALUE), false);
        check.due("refused: it stays", x.count(14), 4);
        check.due("its first n signs alone: all", x.end(4), true);
        check.due("its first n signs alone: all", x.count(14), 4);
        check.due("its first n signs alone: 3", x.end(3), true);
        check.due("its first n signs alone: no longer 4", x.end(4), false);
        check.due("its first n signs alone: three songs", x.songs(), 3);
        check.due("its first n signs alone: the last one", x.worth(2), 3);
        x.sign(0x31323334);
        check.due("its first n signs alone: none", x.end(0), true);
        check.due("its first n signs alone: none", x.count(14), 0);
        check.unchanged("false if it has not so many", 0, y -> y.end(6) ? 1 : 0);
        check.unchanged("false, n is below 0", 0, y -> y.end(-1) ? 1 : 0);
    }

    private static void songs() {
        check.fault("its end for none", -1, "", HeldInTrust::songs);
        check.fault("the sign at p can't stand there: 0", -1, "x", HeldInTrust::songs);
        check.fault("the sign at p can't stand there: 1", -2, "1;", HeldInTrust::songs);
        check.fault("the sign at p can't stand there: 15", -16, "123456789012345x", HeldInTrust::songs);
        check.fault("the sign at p can't stand there: the first of two", -3, "12x4x", HeldInTrust::songs);
        check.fault("a seventeenth sign: at it", -17, "12345678901234567", HeldInTrust::songs);
        check.fault("a seventeenth sign: at it, whatever it is", -17, "1234567890123456x", HeldInTrust::songs);
        check.fault("a seventeenth sign: at it, of 80", -17, "1".repeat(80), HeldInTrust::songs);
        check.fault("a seventeenth sign: one ahead of it can't stand there", -16, "123456789012345x7", HeldInTrust::songs);
        check.fault("a sign of number 0", -3, "12\0", HeldInTrust::songs);
        HeldInTrust x = Check.made("123456", "");
        check.due("SONGS anew", Check.songs(x, "98"), 2);
        check.due("SONGS anew: how many", x.count(0), 2);
        check.due("SONGS anew: by how many there are", x.worth(2), 9);
        check.due("SONGS anew: sixteen", Check.songs(x, "1234567890123456"), 16);
        check.due("SONGS anew: sixteen", x.worth(15), 6);
    }

    private static void lines() {
        check.fault("its end, if it ends too early: behind SORT", -2, "o", HeldInTrust::hearers);
        check.fault("its end, if it ends too early: behind WANT", -3, "o1", HeldInTrust::hearers);
        check.fault("its end, if it ends too early: behind ;", -5, "o11;", HeldInTrust::hearers);
        check.fault("its end, if it ends too early: in a second LINE", -7, "o11;l2", HeldInTrust::hearers);
        check.fault("the sign at p can't stand there: SORT", -1, "x11", HeldInTrust::hearers);
        check.fault("the sign at p can't stand there: SORT of a great letter", -1, "O11", HeldInTrust::hearers);
        check.fault("the sign at p can't stand there: WANT", -2, "ox1", HeldInTrust::hearers);
        check.fault("the sign at p can't stand there: (WANT, not 0)", -2, "o01", HeldInTrust::hearers);
        check.fault("the sign at p can't stand there: PAY", -3, "o1x", HeldInTrust::hearers);
        check.fault("the sign at p can't stand there: ; between", -4, "o11l11", HeldInTrust::hearers);
        check.fault("the sign at p can't stand there: ; first", -1, ";o11", HeldInTrust::hearers);
        check.fault("the sign at p can't stand there: ; twice", -5, "o11;;l11", HeldInTrust::hearers);
        check.fault("the sign at p can't stand there: a third digit", -4, "o111", HeldInTrust::hearers);
        check.fault("Nothing of it comes, if a LINE can't: the second", -6, "o11;l01", HeldInTrust::hearers);
        check.fault("Nothing of it comes, if a LINE can't: the fourth", -13, "o11;l11;c11;x11", HeldInTrust::hearers);
        HeldInTrust x = Stands.rich();
        x.end(0);
        HeldInTrust twin = Stands.rich();
        twin.end(0);
        check.due("(an empty one: nothing)", x.hearers(), 0);
        check.same("(an empty one: nothing)", Stands.seen(x), Stands.seen(twin));
        x = new HeldInTrust();
        check.due("how many LINES", Check.hearers(x, "o10"), 1);
        check.due("how many LINES: not how many HEARERS", Check.hearers(x, "l11;w99"), 2);
        check.due("each one more", x.count(1), 3);
        check.due("PAY 0 can stand there", x.hearer(0, 2), 0);
    }

    private static void roomForLines() {
        String eight = "o11;o11;o11;o11;o11;o11;o11;o11";
        HeldInTrust x = new HeldInTrust();
        String[] behind = {";", "x", "1", ";o", ";o11", ";o11;o11;o11", "x".repeat(49)};
        for (String more : behind) {
            check.due("31, if it has more: " + more, Check.hearers(x, eight + more), -32);
            check.due("31, if it has more: nothing comes", x.count(1), 0);
        }
        check.due("a fault ahead of 31", Check.hearers(x, eight.substring(0, 30) + "x;o11"), -31);
        check.due("a fault ahead of 31", Check.hearers(x, eight.substring(0, 27) + "x" + eight), -28);
        check.due("it ends at 30", Check.hearers(x, eight.substring(0, 30)), -31);
        check.due("31 signs", Check.hearers(x, eight), 8);
        for (int there = 0; there <= 8; there++) {
            int room = 8 - there;
            String lines = "l22;".repeat(room) + "c33";
            int due = -1 - Math.min(4 * room, 31);
            check.due("the first sign of a LINE for which there is no room, behind " + there, Check.hearers(with(there), lines), due);
            check.due("the same, whatever it is, behind " + there, Check.hearers(with(there), "l22;".repeat(room) + "?"), due);
            x = with(there);
            Check.hearers(x, lines);
            check.due("Nothing of it comes, behind " + there, x.count(1), there);
            if (room > 0) {
                check.due("as many as there is room for, behind " + there, Check.hearers(x, "l22;".repeat(room - 1) + "c33"), room);
                check.due("as many as there is room for, behind " + there, x.count(1), 8);
                check.due("its end, ahead of a LINE without room, behind " + there, Check.hearers(with(there), "l22;".repeat(room)), due);
            }
        }
        check.due("no room, more than 31 signs", Check.hearers(with(1), eight + ";o11"), -29);
        check.due("no room, an empty text: nothing", Check.hearers(with(8), ""), 0);
        check.due("a fault ahead of a LINE without room", Check.hearers(with(6), "o11;x11;o11"), -5);
    }

    private static HeldInTrust with(int hearers) {
        HeldInTrust x = new HeldInTrust();
        for (int i = 0; i < hearers; i++) {
            Check.hearers(x, "o11");
        }
        return x;
    }

    private static void rules() {
        HeldInTrust x = Check.made("7", "c94");
        check.due("THE TEXT is THE RULE: 0", Check.rule(x, "3"), 0);
        check.due("THE TEXT is THE RULE", x.hearer(0, 6), 3);
        check.due("(an empty one: none)", Check.rule(x, ""), 0);
        check.due("(an empty one: none): v-k-h/10", x.hearer(0, 6), 5);
        String most = "v" + "+0".repeat(18) + "+12";
        check.due("forty signs", most.length(), 40);
        check.due("likewise (40 signs): 40", Check.rule(x, most), 0);
        check.fault("likewise (40 signs): the first 40 could end", -41, most + "+", HeldInTrust::rule);
        check.fault("likewise (40 signs): the first 40 could end", -41, most + "x", HeldInTrust::rule);
        check.fault("likewise (40 signs): the first 40 could end", -41, most + "+".repeat(40), HeldInTrust::rule);
        String open = "v" + "+0".repeat(19) + "+";
        check.fault("likewise (40 signs): the first 40 could go on", -41, open + "1", HeldInTrust::rule);
        check.fault("likewise (40 signs): the first 40 could go on", -41, "(" + open.substring(0, 39) + ")", HeldInTrust::rule);
        check.fault("likewise: its end, if it ends too early: at 40", -41, open, HeldInTrust::rule);
        check.fault("likewise: its end, if it ends too early: at 40 in a bracket", -41, "(" + open.substring(0, 39), HeldInTrust::rule);
        check.fault("likewise: a fault ahead of 40", -40, open.substring(0, 39) + "xx", HeldInTrust::rule);
        check.fault("likewise: its end, if it ends too early", -3, "v+", HeldInTrust::rule);
        check.fault("likewise: its end, if it ends too early", -2, "(", HeldInTrust::rule);
        check.fault("likewise: its end, if it ends too early", -3, "(v", HeldInTrust::rule);
        check.fault("likewise: its end, if it ends too early", -2, "-", HeldInTrust::rule);
        check.fault("likewise: its end, if it ends too early", -3, "v<", HeldInTrust::rule);
        check.fault("the sign at p can't stand there", -1, "x", HeldInTrust::rule);
        check.fault("the sign at p can't stand there", -1, "*v", HeldInTrust::rule);
        check.fault("the sign at p can't stand there", -2, "v v", HeldInTrust::rule);
        check.fault("the sign at p can't stand there", -3, "v+)", HeldInTrust::rule);
        check.fault("the sign at p can't stand there", -2, "v(", HeldInTrust::rule);
    }

    /** "The sign at p can't stand there": each of the 256 signs, first and behind a thing. */
    private static void everySign() {
        for (int i = 0; i < 256; i++) {
            char sign = (char) i;
            boolean digit = sign >= '0' && sign <= '9';
            check.due("a first SONG by sign " + i, Check.songs(new HeldInTrust(), sign + "5"), digit ? 2 : -1);
            check.due("a second SONG by sign " + i, Check.songs(new HeldInTrust(), "5" + sign), digit ? 2 : -2);
            check.due("SORT by sign " + i, Check.hearers(new HeldInTrust(), sign + "11"), "olcw".indexOf(sign) >= 0 ? 1 : -1);
            check.due("WANT by sign " + i, Check.hearers(new HeldInTrust(), "o" + sign + "1"), digit && sign != '0' ? 1 : -2);
            check.due("PAY by sign " + i, Check.hearers(new HeldInTrust(), "o1" + sign), digit ? 1 : -3);
            check.due("; by sign " + i, Check.hearers(new HeldInTrust(), "o11" + sign + "o11"), sign == ';' ? 2 : -4);
            boolean thing = digit || "vkhwpnc".indexOf(sign) >= 0;
            boolean ahead = sign == '-' || sign == '(';
            check.due("a thing by sign " + i, Check.rule(new HeldInTrust(), "" + sign), thing ? 0 : ahead ? -2 : -1);
            boolean between = "+-*/<>=".indexOf(sign) >= 0;
            check.due("between two things by sign " + i, Check.rule(new HeldInTrust(), "v" + sign + "v"), between ? 0 : -2);
            check.due("behind a bracket by sign " + i, Check.rule(new HeldInTrust(), "(v)" + sign), between ? -5 : -4);
            check.due("behind a NUMBER by sign " + i, Check.rule(new HeldInTrust(), "1" + sign), digit ? 0 : between ? -3 : -2);
            boolean act = "ncsba".indexOf(sign) >= 0;
            int due = act ? 0 : sign == 'h' ? -3 : -1;
            check.due("an ACT by sign " + i, Math.min(0, Check.spring(new HeldInTrust(), sign + "1")), due);
        }
    }

    private static void hearer() {
        HeldInTrust x = Check.made("9", "w35;l80");
        check.noHearer(x, 2, 0);
        check.noHearer(x, 2, 6);
        check.noHearer(x, 8, 0);
        check.noHearer(x, -1, 0);
        check.noHearer(x, -1, 6);
        check.noHearer(x, Integer.MIN_VALUE, 0);
        check.noHearer(x, Integer.MAX_VALUE, 0);
        check.noHearer(x, 0, -1);
        check.noHearer(x, 0, 7);
        check.noHearer(x, 1, 7);
        check.noHearer(x, 0, Integer.MIN_VALUE);
        check.noHearer(x, 0, Integer.MAX_VALUE);
        check.noHearer(new HeldInTrust(), 0, 0);
        check.unchanged("NoSuchElementException changes nothing", 1, y -> Stands.throwsNone(y, z -> z.hearer(4, 0)) ? 1 : 0);
        check.unchanged("NoSuchElementException changes nothing", 1, y -> Stands.throwsNone(y, z -> z.hearer(0, 7)) ? 1 : 0);
        check.due("the last HEARER", x.hearer(1, 1), 8);
        check.due("5: 1 if PRESENT", x.hearer(1, 5), 1);
        x.comes(1);
        check.due("5: 0 if not", x.hearer(1, 5), 0);
        check.due("6: PRESENT or not", x.hearer(1, 6), 8);
        Check.rule(x, "c");
        check.due("6: c as it is: it is not counted itself", x.hearer(1, 6), 1);
        x.comes(0);
        check.due("6: c as it is: nobody", x.hearer(1, 6), 0);
        Check.rule(x, "n+1");
        x.nights(6);
        check.due("6: on this NIGHT", x.hearer(1, 6), 7);
        x.nights(1);
        check.due("6: on this NIGHT", x.hearer(1, 6), 1);
    }

    private static void worth() {
        HeldInTrust x = Check.made("123", "");
        check.due("0: of this one", x.worth(0), 1);
        check.due("99", x.worth(99), 1);
        check.due("98", x.worth(98), 3);
        x.nights(1);
        check.due("0: of this one", x.worth(0), 2);
        check.due("99", x.worth(99), 2);
        check.unchanged("NONE: another n: -1", -1, y -> y.worth(-1));
        check.unchanged("NONE: another n: 100", -1, y -> y.worth(100));
        check.unchanged("NONE: another n: the least", -1, y -> y.worth(Integer.MIN_VALUE));
        check.unchanged("NONE: another n: the greatest", -1, y -> y.worth(Integer.MAX_VALUE));
    }

    private static void sheet(String words, int kind, int n, int f, int step, int due, int... heard) {
        HeldInTrust x = Check.made("9", "o11;o11;o11");
        x.sheet(2, 3, 7, 7);
        check.due(words, x.sheet(kind, n, f, step), due);
        for (int i = 0; i < heard.length; i++) {
            check.due(words + ": HEARD of " + i, x.hearer(i, 3), heard[i]);
        }
    }

    private static void sheetEntries() {
        sheet("bytes: 99", 0, 3, 99, 1, 297, 99, 99, 99);
        sheet("bytes: 98", 0, 3, 98, 1, 296, 98, 99, 99);
        sheet("bytes with their sign: 127, 128", 0, 3, 127, 1, 99, 99, 0, 0);
        sheet("bytes with their sign: 255, 256, 257", 0, 3, 255, 1, 1, 0, 0, 1);
        sheet("bytes of -1, 0, 1", 0, 3, -1, 1, 1, 0, 0, 1);
        sheet("bytes of -129: 127", 0, 3, -129, 1, 99, 99, 0, 0);
        sheet("shorts: 128", 1, 3, 127, 1, 297, 99, 99, 99);
        sheet("shorts with their sign: 32767, 32768", 1, 3, 32767, 1, 99, 99, 0, 0);
        sheet("shorts with their sign: 65535, 65536, 65537", 1, 3, 65535, 1, 1, 0, 0, 1);
        sheet("shorts of -32769: 32767", 1, 3, -32769, 1, 99, 99, 0, 0);
        sheet("ints: 32768", 2, 3, 32768, 1, 297, 99, 99, 99);
        sheet("ints: 65536", 2, 3, 65536, 1, 297, 99, 99, 99);
        sheet("ints: the greatest, then the least", 2, 3, Integer.MAX_VALUE, 1, 99, 99, 0, 0);
        sheet("ints: the greatest steps", 2, 3, 5, Integer.MAX_VALUE, 5 + 0 + 3, 5, 0, 3);
        sheet("put to 0 .. 99: -1, 0, 1", 2, 3, -1, 1, 1, 0, 0, 1);
        sheet("put to 0 .. 99: 98, 99, 100", 2, 3, 98, 1, 98 + 99 + 99, 98, 99, 99);
        sheet("steps below 0", 2, 3, 2, -2, 2, 2, 0, 0);
        sheet("those behind it have 0: two entries", 2, 2, 5, 1, 11, 5, 6, 0);
        sheet("those behind it have 0: one entry", 1, 1, 5, 1, 5, 5, 0, 0);
        sheet("those behind it have 0: no entry", 0, 0, 5, 1, 0, 0, 0, 0);
        sheet("n 8, fewer HEARERS", 2, 8, 5, 1, 18, 5, 6, 7);
        sheet("-3: missing (all 0)", 3, 3, 5, 1, -3, 0, 0, 0);
        sheet("-3: missing (all 0), n 0", 3, 0, 5, 1, -3, 0, 0, 0);
        sheet("-3: missing (all 0), n 8", 3, 8, 5, 1, -3, 0, 0, 0);
        sheet("-3: missing (all 0), n below 0 (-2 is of kinds 0 .. 2)", 3, -1, 5, 1, -3, 0, 0, 0);
        HeldInTrust x = Check.made("9", "o11;o11;o11;o11;o11;o11;o11;o11");
        check.due("n 8 of eight", x.sheet(0, 8, 92, 1), 92 + 93 + 94 + 95 + 96 + 97 + 98 + 99);
        check.due("the sum of all: as count(8)", x.count(8), 92 + 93 + 94 + 95 + 96 + 97 + 98 + 99);
        check.due("without HEARERS", new HeldInTrust().sheet(2, 8, 5, 5), 0);
        check.due("without HEARERS, missing", new HeldInTrust().sheet(3, 8, 5, 5), -3);
    }

    private static void sheetRefusals() {
        for (int kind = 0; kind <= 2; kind++) {
            int k = kind;
            check.unchanged("-2: n below 0 (nothing changes): -1 of kind " + k, -2, y -> y.sheet(k, -1, 5, 5));
            check.unchanged("-2: n below 0 (nothing changes): the least of kind " + k, -2, y -> y.sheet(k, Integer.MIN_VALUE, 5, 5));
            check.unchanged("NONE: n above 8: 9 of kind " + k, -1, y -> y.sheet(k, 9, 5, 5));
            check.unchanged("NONE: n above 8: the greatest of kind " + k, -1, y -> y.sheet(k, Integer.MAX_VALUE, 5, 5));
        }
        check.unchanged("NONE: n above 8 (these first): a missing one", -1, y -> y.sheet(3, 9, 5, 5));
        check.unchanged("NONE: another kind: 4", -1, y -> y.sheet(4, 2, 5, 5));
        check.unchanged("NONE: another kind: -1", -1, y -> y.sheet(-1, 2, 5, 5));
        check.unchanged("NONE: another kind: the least", -1, y -> y.sheet(Integer.MIN_VALUE, 2, 5, 5));
        check.unchanged("NONE: another kind (these first): n below 0", -1, y -> y.sheet(4, -1, 5, 5));
        check.unchanged("NONE: another kind (these first): n below 0", -1, y -> y.sheet(-1, -1, 5, 5));
    }
}
