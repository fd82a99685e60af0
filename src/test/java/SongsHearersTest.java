/** Promises 1 to 9: a new object, THE TEXT, SONGS, HEARERS, THE RULE, sheets. */
public final class SongsHearersTest {
    private static final Check check = new Check();

    public static void main(String[] args) {
        newObject();
        signs();
        songs();
        hearers();
        rules();
        ruleFaults();
        hearer();
        sheets();
        check.end();
    }

    private static void newObject() {
        HeldInTrust x = new HeldInTrust();
        int[] due = {1, 0, 0, 0, 20, 0, 11, 0, 0, 0, 0, 0, 0, 0, 0};
        for (int what = 0; what < due.length; what++) {
            check.due("new: count(" + what + ")", x.count(what), due[what]);
        }
        check.due("new: worth(0)", x.worth(0), 0);
        check.due("new: worth(99)", x.worth(99), 0);
        check.due("NONE", HeldInTrust.NONE, -1);
        check.noHearer(x, 0, 0);
        check.noRow(x, 0);
    }

    private static void signs() {
        HeldInTrust x = new HeldInTrust();
        for (int i = 1; i <= 20; i++) {
            check.due("sign " + i, x.sign(0x30313233), 4 * i);
        }
        check.due("sign of the 84th", x.sign(0x30313233), -1);
        check.due("80 signs stay", x.count(14), 80);
        check.due("end(81)", x.end(81), false);
        check.due("end(-1)", x.end(-1), false);
        check.due("end(min)", x.end(Integer.MIN_VALUE), false);
        check.due("end(77)", x.end(77), true);
        check.due("sign at 77", x.sign(0), -1);
        check.due("end(76)", x.end(76), true);
        check.due("sign at 76", x.sign(0), 80);
        check.due("end(4)", x.end(4), true);
        check.due("count(14)", x.count(14), 4);
        check.due("songs() of 0123", x.songs(), 4);
        for (int n = 0; n < 8; n++) {
            check.due("the highest byte first: worth(" + n + ")", x.worth(n), n % 4);
        }
        check.due("the text is empty", x.count(14), 0);
        check.due("end(1) of nothing", x.end(1), false);
        check.due("end(0) of nothing", x.end(0), true);
        x.sign(0xb1b2b3b4);
        check.due("signs above 127 are no digits", x.songs(), -1);
    }

    private static void songs() {
        HeldInTrust x = new HeldInTrust();
        check.due("songs of 16", Check.songs(x, "1234567890123456"), 16);
        check.due("count(0)", x.count(0), 16);
        check.due("worth(15)", x.worth(15), 6);
        check.due("worth(16)", x.worth(16), 1);
        check.due("worth(-1)", x.worth(-1), -1);
        check.due("worth(99)", x.worth(99), 4);
        check.due("worth(100)", x.worth(100), -1);
        check.due("songs of 17", Check.songs(x, "12345678901234567"), -17);
        check.due("songs of 20 with a fault behind", Check.songs(x, "1234567890123456789x"), -17);
        check.due("songs, fault at 15", Check.songs(x, "123456789012345x7"), -16);
        check.due("no songs", Check.songs(x, ""), -1);
        check.due("a blank", Check.songs(x, "12 4"), -3);
        check.due("a fault empties the text", x.count(14), 0);
        check.due("a fault keeps the songs", x.count(0), 16);
        check.due("songs anew", Check.songs(x, "7"), 1);
        check.due("worth(5) of one song", x.worth(5), 7);
        x.nights(3);
        Check.songs(x, "0123456789");
        check.due("the night stays", x.worth(0), 3);
    }

    private static void hearers() {
        HeldInTrust x = new HeldInTrust();
        check.due("nothing", Check.hearers(x, ""), 0);
        check.due("o90;l11", Check.hearers(x, "o90;l11"), 2);
        check.due("c25", Check.hearers(x, "c25"), 1);
        check.due("w99;z", Check.hearers(x, "w99;z"), -5);
        check.due("nothing of it came", x.count(1), 3);
        check.due("the text is empty", x.count(14), 0);
        int[][] faults = {{'x', 0}, {'O', 0}, {'0', 0}, {';', 0}};
        for (int[] f : faults) {
            check.due("line " + (char) f[0], Check.hearers(x, String.valueOf((char) f[0])), -1 - f[1]);
        }
        check.due("o", Check.hearers(x, "o"), -2);
        check.due("o0", Check.hearers(x, "o01"), -2);
        check.due("o1", Check.hearers(x, "o1"), -3);
        check.due("o1x", Check.hearers(x, "o1x"), -3);
        check.due("o11;", Check.hearers(x, "o11;"), -5);
        check.due("o11,", Check.hearers(x, "o11,o11"), -4);
        check.due("five come", Check.hearers(x, "o11;o12;o13;o14;o15"), 5);
        check.due("eight", x.count(1), 8);
        check.due("all are present", x.count(7), 255);
        check.due("no room", Check.hearers(x, "o11"), -1);
        check.due("no room, a wrong sign", Check.hearers(x, "?"), -1);
        check.due("nothing still can", Check.hearers(x, ""), 0);
        x = new HeldInTrust();
        Check.hearers(x, "o11;o11;o11;o11;o11;o11");
        check.due("room for two of three", Check.hearers(x, "o11;l22;c33"), -9);
        check.due("the line without room is not begun", Check.hearers(x, "o11;l22;"), -9);
        check.due("a fault ahead of it", Check.hearers(x, "o11;l2;c33"), -7);
        check.due("two", Check.hearers(x, "o11;l22"), 2);
        x = new HeldInTrust();
        String eight = "o11;l22;c33;w44;o55;l66;c77;w88";
        check.due("32 signs", Check.hearers(x, eight + ";"), -32);
        check.due("32 signs, another sign", Check.hearers(x, eight + "x"), -32);
        check.due("a fault ahead of 31", Check.hearers(x, "o11;l22;c33;w44;o55;l66;c77;w8x;o11"), -31);
        check.due("31 signs", Check.hearers(x, eight), 8);
        check.due("hearer(7, 0)", x.hearer(7, 0), 3);
    }

    /** What a hearer of WANT 9 MAY have by a rule. */
    private static int by(HeldInTrust x, String rule) {
        check.due("rule " + rule, Check.rule(x, rule), 0);
        return x.hearer(0, 6);
    }

    private static void rules() {
        HeldInTrust x = Check.made("7", "c94;l20");
        String[] rules = {
            "", "5", "v", "k", "h", "w", "p", "n", "c", "9-2-3", "8/2/2", "1+2*3", "2*3-1", "7/0+3", "0-7/2+9",
            "-7/2+9", "-2*-3", "--5", "-----5+9", "2--3", "1+2<4", "4>1+2", "3=3", "3=4", "(1<2)+(2>1)+(3=3)",
            "1-2<0", "2*(1+2)", "((((6))))", "(1)+(((2)))+3", "007", "100/20", "999", "0-1", "-(1-3)*2", "(1<2)<(3<4)",
            "(999*999*999*999<0)*5", "3*(2-(1-(4-2)))", "9/(1-1)", "-h/2", "v-k-h/10", "7-8/3*2",
        };
        int[] due = {
            5, 5, 7, 2, 0, 9, 4, 0, 2, 4, 2, 7, 5, 3, 6,
            6, 6, 5, 4, 5, 1, 1, 1, 0, 3,
            1, 6, 6, 6, 7, 5, 9, 0, 4, 0,
            5, 9, 0, 0, 5, 3,
        };
        for (int i = 0; i < rules.length; i++) {
            check.due("may by " + rules[i], by(x, rules[i]), due[i]);
        }
        check.due("the rule stays behind a fault", Check.rule(x, "z"), -1);
        check.due("may by the same", x.hearer(0, 6), 3);
        check.due("want is the most", x.hearer(1, 6), 2);
        x.sheet(2, 2, 35, 0);
        by(x, "");
        check.due("by none: v - k - h / 10", x.hearer(0, 6), 2);
        x.nights(5);
        check.due("n on night 5", by(x, "n"), 5);
        x.nights(4);
        check.due("n on night 9", by(x, "n"), 2);
        x.comes(0);
        check.due("c as it is, present or not", by(x, "c"), 1);
        check.due("h", by(x, "h-30"), x.hearer(0, 3) - 30 > 9 ? 9 : x.hearer(0, 3) - 30);
    }

    private static void ruleFaults() {
        HeldInTrust x = Check.made("7", "c94");
        String forty = "v+v+v+v+v+v+v+v+v+v+v+v+v+v+v+v+v+v+v+10";
        check.due("forty", forty.length(), 40);
        String[] rules = {
            "z", "V", "+v", "v+", "v+*", "v<k<h", "v<k=h", "v<(k<h)<1", "(v", "(v))", ")", "()", "(((((v", "((((v))))+(((((", "1000",
            "v1", "1v", "vk", "(v)2", "(1)2", "(12)3", "2(v)", "-", "v-", "v--", "v<", "v,k", " v", "v ", "*", "(v<k<h)", "(v<k)<(h<1)<2", "v~k", "~v",
            forty + "0", forty + "+", forty + "x", forty + "00", forty.substring(0, 39) + "(v)", forty.substring(0, 38) + "-",
            forty.substring(0, 38) + "v+", forty.substring(0, 37) + "x+v+v",
        };
        int[] places = {
            0, 0, 0, 2, 2, 3, 3, 7, 2, 3, 0, 1, 4, 14, 3,
            1, 1, 1, 3, 3, 4, 1, 1, 2, 3, 2, 1, 0, 1, 0, 4, 11, 1, 0,
            40, 40, 40, 40, 39, 39,
            40, 37,
        };
        for (int i = 0; i < rules.length; i++) {
            check.due("rule " + rules[i], Check.rule(x, rules[i]), -1 - places[i]);
            check.due("law " + rules[i], Check.law(x, rules[i]), -10000 - places[i]);
        }
        check.due("the text is empty", x.count(14), 0);
        check.due("forty signs", Check.rule(x, forty), 0);
        check.due("may by forty signs", x.hearer(0, 6), 9);
        check.due("37 times minus", Check.rule(x, "-".repeat(38) + "v"), 0);
        check.due("an even number of them", x.hearer(0, 6), 7);
    }

    private static void hearer() {
        HeldInTrust x = Check.made("9", "w35;l80");
        int[][] due = {{3, 3, 5, 0, 0, 1, 3}, {1, 8, 0, 0, 0, 1, 8}};
        for (int i = 0; i < 2; i++) {
            for (int what = 0; what < 7; what++) {
                check.due("hearer(" + i + ", " + what + ")", x.hearer(i, what), due[i][what]);
            }
        }
        x.nights(1);
        check.due("heard", x.hearer(1, 3), 6);
        x.comes(1);
        check.due("not present", x.hearer(1, 5), 0);
        check.due("may still", x.hearer(1, 6), 8);
        check.noHearer(x, 2, 0);
        check.noHearer(x, -1, 0);
        check.noHearer(x, 0, 7);
        check.noHearer(x, 0, -1);
        check.noHearer(x, Integer.MAX_VALUE, Integer.MIN_VALUE);
    }

    private static void heard(HeldInTrust x, String call, int... due) {
        for (int i = 0; i < due.length; i++) {
            check.due("heard of " + i + " by " + call, x.hearer(i, 3), due[i]);
        }
    }

    private static void sheets() {
        HeldInTrust x = Check.made("9", "o11;o11;o11");
        check.due("bytes", x.sheet(0, 3, 127, 1), 99);
        heard(x, "bytes", 99, 0, 0);
        check.due("bytes of great numbers", x.sheet(0, 3, 256 + 5, 1000), 5 + 0 + 0);
        heard(x, "bytes of great numbers: 5, -19, -43", 5, 0, 0);
        check.due("shorts", x.sheet(1, 3, 65536 + 7, 32768), 7 + 0 + 7);
        heard(x, "shorts", 7, 0, 7);
        check.due("ints", x.sheet(2, 3, 65536 + 7, -65530), 99 + 13 + 0);
        heard(x, "ints", 99, 13, 0);
        check.due("ints that wrap", x.sheet(2, 3, Integer.MIN_VALUE + 4, Integer.MIN_VALUE), 4);
        heard(x, "ints that wrap", 0, 4, 0);
        check.due("fewer entries", x.sheet(2, 1, 50, 1), 50);
        heard(x, "fewer entries", 50, 0, 0);
        check.due("more entries", x.sheet(2, 8, 1, 1), 6);
        heard(x, "more entries", 1, 2, 3);
        check.due("below 0", x.sheet(2, -1, 9, 9), -2);
        check.due("below 0", x.sheet(0, Integer.MIN_VALUE, 9, 9), -2);
        heard(x, "refused", 1, 2, 3);
        check.due("nine", x.sheet(1, 9, 9, 9), -1);
        check.due("nine, missing", x.sheet(3, 9, 9, 9), -1);
        check.due("kind 4", x.sheet(4, 1, 9, 9), -1);
        check.due("kind 4, below 0", x.sheet(4, -1, 9, 9), -1);
        check.due("kind -1", x.sheet(-1, 1, 9, 9), -1);
        heard(x, "refused", 1, 2, 3);
        check.due("missing", x.sheet(3, -5, 9, 9), -3);
        heard(x, "missing", 0, 0, 0);
        check.due("no entries", x.sheet(0, 0, 9, 9), 0);
        check.due("no hearers", new HeldInTrust().sheet(2, 3, 9, 9), 0);
    }
}
