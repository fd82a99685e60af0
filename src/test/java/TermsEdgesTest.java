/** The edges that the first page and Terms 1 and 2 name; each test bears the words that it holds to. */
public final class TermsEdgesTest {
    private static final Check check = new Check();

    public static void main(String[] args) {
        calls();
        songs();
        hearers();
        limits();
        bindings();
        comparisons();
        division();
        minus();
        numbersAndBrackets();
        things();
        ints();
        rulesBehindFaults();
        partings();
        stakes();
        rows();
        texts();
        check.end();
    }

    /** "An object is used for at most 512 calls after it has been made." */
    private static void calls() {
        HeldInTrust x = new HeldInTrust();
        for (int i = 1; i <= 511; i++) {
            check.due("512 calls: call " + i, x.gain(i % 2), 10 + (i == 1 ? 1 : (i - 1) % 2));
        }
        check.due("512 calls: the last one", x.undo(), 11);
        x = new HeldInTrust();
        x.sign(0x39383736);
        x.songs();
        for (int i = 0; i < 508; i++) {
            x.nights(60);
        }
        check.due("512 calls: the farthest NIGHT", x.count(2), 60 * 508);
        check.due("512 calls: the SONG of the farthest NIGHT", x.worth(99), 6);
    }

    private static void songs() {
        HeldInTrust x = new HeldInTrust();
        check.due("SONGS (at first one of 0)", x.count(0) * 100 + x.worth(0) + x.worth(1), 100);
        check.due("NIGHT (at first 0)", x.count(2), 0);
        check.due("SONGS: 1 to 16 WORTHS: 1", Check.songs(x, "8"), 1);
        check.due("SONGS: 1 to 16 WORTHS: 16", Check.songs(x, "0123456789876543"), 16);
        check.due("SONGS: 1 to 16 WORTHS: 0", Check.songs(x, ""), -1);
        check.due("SONGS: 1 to 16 WORTHS: 17", Check.songs(x, "01234567898765432"), -17);
        check.due("WORTHS 0 .. 9: 0", x.worth(0), 0);
        check.due("WORTHS 0 .. 9: 9", x.worth(9), 9);
        check.due("WORTHS 0 .. 9: the sign ahead of 0", Check.songs(x, "/"), -1);
        check.due("WORTHS 0 .. 9: the sign behind 9", Check.songs(x, ":"), -1);
        check.due("NIGHT by how many there are (rest): 15", x.worth(15), 3);
        check.due("NIGHT by how many there are (rest): 16", x.worth(16), 0);
        check.due("NIGHT by how many there are (rest): 31", x.worth(31), 3);
        check.due("NIGHT by how many there are (rest): 32", x.worth(32), 0);
        x.nights(15);
        check.due("NIGHT by how many there are (rest): the last one", x.worth(0), 3);
        x.nights(1);
        check.due("NIGHT by how many there are (rest): anew", x.worth(0), 0);
        Check.songs(x, "123");
        check.due("NIGHT by how many there are (rest): 16 by 3", x.worth(0), 2);
        check.due("NIGHT by how many there are (rest): 17 by 3", x.worth(1), 3);
        check.due("NIGHT by how many there are (rest): 18 by 3", x.worth(2), 1);
    }

    private static void hearers() {
        HeldInTrust x = new HeldInTrust();
        check.due("HEARERS: 0 at first", x.count(1), 0);
        Check.hearers(x, "o10;l19;c90;w99;o55;o55;o55;o55");
        check.due("HEARERS (at most 8)", x.count(1), 8);
        check.due("HEARERS (at most 8): a ninth", Check.hearers(x, "o55"), -1);
        check.due("HEARERS (at most 8): a ninth did not come", x.count(1), 8);
        int[][] due = {{0, 1, 0}, {1, 1, 9}, {2, 9, 0}, {3, 9, 9}};
        for (int i = 0; i < due.length; i++) {
            check.due("SORT 0 .. 3 (o, l, c, w)", x.hearer(i, 0), due[i][0]);
            check.due("WANT 1 .. 9", x.hearer(i, 1), due[i][1]);
            check.due("PAY 0 .. 9", x.hearer(i, 2), due[i][2]);
            check.due("HEARD (at first 0)", x.hearer(i, 3), 0);
            check.due("SURCHARGED (at first 0)", x.hearer(i, 4), 0);
            check.due("PRESENT (at first)", x.hearer(i, 5), 1);
        }
        check.due("PRESENT (at first): all", x.count(7), 255);
        x = Check.made("9", "o11");
        x.comes(0);
        Check.hearers(x, "o11");
        check.due("LINES .. each one more: who was there stays as it is", x.count(7), 2);
    }

    private static void limits() {
        HeldInTrust x = new HeldInTrust();
        check.due("BOOK (at first 0)", x.count(3), 0);
        check.due("MONEY (at first 20)", x.count(4), 20);
        check.due("STAKE (at first 0)", x.count(5), 0);
        check.due("GAIN (tenths, at first 1)", x.count(6), 11);
        x = Stands.book(9989);
        check.due("BOOK 0 .. 9999: below", x.count(3), 9989);
        check.due("BOOK 0 .. 9999: 9998", x.nights(1), 9998);
        check.due("What is left goes into THE BOOK (9999 at most)", x.nights(1), 9999);
        check.due("What is left goes into THE BOOK (9999 at most): still", x.nights(60), 9999);
        x = Stands.book(9990);
        check.due("What is left goes into THE BOOK: 9999 itself", x.nights(1), 9999);
        x = Stands.money(9917);
        check.due("MONEY 0 .. 9999: below", x.count(4), 9917);
        Check.songs(x, "9");
        x.comes(0);
        x.nights(1);
        check.due("MONEY 0 .. 9999: 9998", x.count(4), 9998);
        x.nights(1);
        check.due("MONEY PAY for each of it more (9999 at most)", x.count(4), 9999);
        x.nights(1);
        check.due("MONEY PAY for each of it more (9999 at most): still", x.count(4), 9999);
        x = Check.made("9", "o93");
        Check.rule(x, "9");
        x.sheet(2, 1, 89, 0);
        x.nights(1);
        check.due("HEARD is so much more: 98", x.hearer(0, 3), 98);
        x.nights(1);
        check.due("HEARD is so much more (99 at most)", x.hearer(0, 3), 99);
        check.due("MONEY PAY for each of it: of what it has, though HEARD is full", x.count(4), 20 + 54);
        x = Check.made("9", "o93");
        Check.rule(x, "9");
        x.sheet(2, 1, 90, 0);
        x.nights(1);
        check.due("HEARD is so much more: 99 itself", x.hearer(0, 3), 99);
    }

    /** What a HEARER (SORT 2, WANT 9, PAY 4, HEARD 0) MAY have of a SONG of WORTH 7 on NIGHT 0, two being PRESENT. */
    private static int may(String rule) {
        HeldInTrust x = Check.made("7", "c94;o11");
        check.due("rule " + rule, Check.rule(x, rule), 0);
        return x.hearer(0, 6);
    }

    private static void may(String words, String rule, int due) {
        check.due(words + ": " + rule, may(rule), due);
    }

    private static void fault(String words, String rule, int place) {
        HeldInTrust x = Check.made("7", "c94;o11");
        check.due(words + ": " + rule, Check.rule(x, rule), -1 - place);
        check.due(words + ": THE RULE stays behind " + rule, x.hearer(0, 6), 5);
    }

    private static void bindings() {
        may("< > = bind least", "1+1<3", 1);
        may("< > = bind least", "3>1+1", 1);
        may("< > = bind least", "2+1=3", 1);
        may("< > = bind least", "3=1+2", 1);
        may("< > = bind least", "0-1<0", 1);
        may("< > = bind least", "2*3=6", 1);
        may("< > = bind least", "6=2*3", 1);
        may("< > = bind least", "-1<0", 1);
        may("< > = bind least", "0>-1", 1);
        may("+ - (from the left)", "9-4-3", 2);
        may("+ - (from the left)", "9-4+3", 8);
        may("+ - (from the left)", "1+9-4", 6);
        may("* / (from the left)", "8/4*2", 4);
        may("* / (from the left)", "8/2/2", 2);
        may("* / (from the left)", "3*3/2", 4);
        may("then * /", "1+2*3", 7);
        may("then * /", "2*3+1", 7);
        may("then * /", "9-8/4", 7);
        may("then * /", "8/4-1", 1);
    }

    private static void comparisons() {
        may("1 or 0", "4<5", 1);
        may("1 or 0", "5<5", 0);
        may("1 or 0", "6<5", 0);
        may("1 or 0", "4>5", 0);
        may("1 or 0", "5>5", 0);
        may("1 or 0", "6>5", 1);
        may("1 or 0", "4=5", 0);
        may("1 or 0", "5=5", 1);
        may("1 or 0", "6=5", 0);
        String[] signs = {"<", ">", "="};
        for (String one : signs) {
            for (String other : signs) {
                fault("not one behind the other", "1" + one + "2" + other + "3", 3);
                fault("not one behind the other", "(1" + one + "2" + other + "3)", 4);
                fault("not one behind the other, a bracket between", "1" + one + "(2)" + other + "3", 5);
                fault("not one behind the other, one in a bracket between", "1" + one + "(2<3)" + other + "3", 7);
                fault("not one behind the other, a sum between", "1" + one + "2+3" + other + "3", 5);
                check.due("a bracket has its own " + one + " " + other, Check.rule(new HeldInTrust(), "(1" + one + "2)" + other + "3"), 0);
                check.due("a bracket has its own " + one + " " + other, Check.rule(new HeldInTrust(), "1" + one + "(2" + other + "3)"), 0);
            }
        }
        for (String one : signs) {
            fault("(two): nothing ahead", one + "1", 0);
            fault("(two): nothing behind", "1" + one, 2);
            fault("(two): nothing between", "1" + one + one + "1", 2);
            fault("(two): nothing ahead in a bracket", "(" + one + "1)", 1);
            fault("(two): nothing behind in a bracket", "(1" + one + ")", 3);
        }
        may("a bracket has its own", "(5<6)+(5<6)+(5<6)", 3);
        may("a bracket has its own", "(1<2)+1<3", 1);
        may("a bracket has its own", "(1<2)=(2>1)", 1);
        fault("not one behind the other", "(1<2)=(2>1)=1", 11);
    }

    private static void division() {
        may("by 0: 0", "7/0", 0);
        may("by 0: 0", "0/0", 0);
        may("by 0: 0", "5+7/0", 5);
        may("by 0: 0", "5+7/(3-3)", 5);
        may("by 0: 0", "5-7/h", 5);
        may("by 0: 0", "7/0*3+2", 2);
        may("by 0: 0", "4/(7/0)+1", 1);
        may("cut to 0", "7/2", 3);
        may("cut to 0", "1/2", 0);
        may("cut to 0", "9+-7/2", 6);
        may("cut to 0", "9+(0-7)/2", 6);
        may("cut to 0", "9+7/-2", 6);
        may("cut to 0", "-7/-2", 3);
        may("cut to 0", "5+-1/2", 5);
    }

    private static void minus() {
        may("- ahead of a thing", "-3+9", 6);
        may("- ahead of a thing", "-h+4", 4);
        may("- ahead of a thing", "-(2-5)", 3);
        may("- ahead of a thing", "6--3", 9);
        may("- ahead of a thing", "2*-3+9", 3);
        may("- ahead of a thing", "-2*-3", 6);
        may("- ahead of a thing", "9/-3+9", 6);
        may("- ahead of a thing", "(-1)+2", 1);
        may("- ahead of a thing", "-1<-0", 1);
        may("(any many)", "--3", 3);
        may("(any many)", "---3+9", 6);
        may("(any many)", "9----3", 9);
        may("(any many)", "-".repeat(38) + "v", 7);
        may("(any many)", "-".repeat(39) + "v", 0);
        may("(any many)", "5" + "-".repeat(38) + "4", 9);
        may("(any many)", "5" + "-".repeat(37) + "4", 1);
        may("(any many)", "--(--(--(--(4))))", 4);
        fault("- ahead of a thing: no thing", "-", 1);
        fault("- ahead of a thing: no thing", "v-", 2);
        fault("- ahead of a thing: no + so", "+v", 0);
        fault("- ahead of a thing: no + so", "v-+v", 2);
        fault("- ahead of a thing: no thing in a bracket", "(-)", 2);
    }

    private static void numbersAndBrackets() {
        may("a NUMBER of 1 to 3 digits", "6", 6);
        may("a NUMBER of 1 to 3 digits", "16-10", 6);
        may("a NUMBER of 1 to 3 digits", "106-100", 6);
        may("a NUMBER of 1 to 3 digits", "999-993", 6);
        may("a NUMBER of 1 to 3 digits", "006", 6);
        may("a NUMBER of 1 to 3 digits", "000", 0);
        fault("a NUMBER of 1 to 3 digits", "1000", 3);
        fault("a NUMBER of 1 to 3 digits", "0000", 3);
        fault("a NUMBER of 1 to 3 digits", "1+0001", 5);
        fault("a NUMBER of 1 to 3 digits", "(1234)", 4);
        fault("a NUMBER of no digits", "()", 1);
        fault("a NUMBER of no digits", "1+", 2);
        fault("a digit behind a letter", "v1", 1);
        fault("a digit behind a bracket", "(v)1", 3);
        fault("a digit behind a bracket", "(1)2", 3);
        fault("a digit behind a bracket", "(12)3", 4);
        may("(at most 4 in one another)", "((((6))))", 6);
        may("(at most 4 in one another)", "(1+(1+(1+(3))))", 6);
        may("(at most 4 in one another): others beside", "((((1))))+((((2))))", 3);
        may("(at most 4 in one another): others beside", "(((1)+((1))))+(2)", 4);
        fault("(at most 4 in one another)", "(((((6)))))", 4);
        fault("(at most 4 in one another)", "(1+(1+(1+(3+(1)))))", 12);
        fault("(at most 4 in one another)", "((((1))))+(((((2", 14);
        fault("in ( ): not closed", "((((6)))", 8);
        fault("in ( ): closed too often", "(6))", 3);
        fault("in ( ): closed without one", "6)", 1);
        String forty = "9-" + "0+".repeat(17) + "1+10";
        check.due("forty signs", forty.length(), 40);
        may("a text of at most 40 signs", forty, 9);
        may("a text of at most 40 signs", "0" + "+0".repeat(18) + "+10", 9);
        fault("a text of at most 40 signs", forty + "0", 40);
        fault("a text of at most 40 signs", forty + "+0", 40);
        may("a text of at most 40 signs: 39", "0" + "+0".repeat(18) + "+8", 8);
        may("at first none: v-k-h/10", "", 5);
        may("at first none: as this", "v-k-h/10", 5);
    }

    private static void things() {
        may("v WORTH of its SONG", "v", 7);
        may("k SORT", "k", 2);
        may("h HEARD", "h", 0);
        may("w WANT", "w", 9);
        may("p PAY", "p", 4);
        may("n NIGHT by 7 (rest)", "n", 0);
        may("c how many are PRESENT", "c", 2);
        HeldInTrust x = Check.made("0", "o91;o91");
        Check.rule(x, "n");
        for (int night = 0; night < 16; night++) {
            check.due("n NIGHT by 7 (rest): NIGHT " + night, x.hearer(0, 6), night % 7);
            x.nights(1);
        }
        Check.rule(x, "c");
        x.comes(0);
        check.due("c how many are PRESENT: one", x.hearer(0, 6), 1);
        x.comes(1);
        check.due("c how many are PRESENT: nobody", x.hearer(0, 6), 0);
        x = Check.made("0", "o91;o91;o91;o91;o91;o91;o91;o91");
        Check.rule(x, "c");
        check.due("c how many are PRESENT: eight", x.hearer(7, 6), 8);
        x = Check.made("0", "o51;o11;o91");
        Check.rule(x, "5");
        check.due("put to 0 .. WANT: WANT itself", x.hearer(0, 6), 5);
        check.due("put to 0 .. WANT: above", x.hearer(1, 6), 1);
        check.due("put to 0 .. WANT: below", x.hearer(2, 6), 5);
        Check.rule(x, "6");
        check.due("put to 0 .. WANT: one above", x.hearer(0, 6), 5);
        Check.rule(x, "4");
        check.due("put to 0 .. WANT: one below", x.hearer(0, 6), 4);
        Check.rule(x, "0-1");
        check.due("put to 0 .. WANT: below 0", x.hearer(0, 6), 0);
        Check.rule(x, "1-1");
        check.due("put to 0 .. WANT: 0 itself", x.hearer(0, 6), 0);
    }

    /** 512 * 512 * 512 * 16 is 2 to the 31: the least int. */
    private static void ints() {
        may("As ints: the least", "512*512*512*16", 0);
        may("As ints: one less than the least", "512*512*512*16-1", 9);
        may("As ints: the least, minus ahead", "-(512*512*512*16)", 0);
        may("As ints: the least by -1", "512*512*512*16/-1", 0);
        may("As ints: the least by -1, less 1", "512*512*512*16/-1-1", 9);
        may("As ints: 2 to the 32", "512*512*512*32+3", 3);
        may("As ints: the greatest and 1", "512*512*512*16-1+1<0", 1);
        may("As ints: no longer numbers", "(999*999*999*999<0)*5", 5);
    }

    /** Nothing of a text that was refused is left for the next one. */
    private static void rulesBehindFaults() {
        String[] faults = {"((((", "((((v", "v<k<", "(v<k<", "12", "123x", "v+", "-", "--x", "((((v))))x", "0" + "+(1".repeat(4) + "<x"};
        String[] right = {"v", "((((v))))", "(v<k)+7", "v<k", "7-0", "2*(1+2)+1", "(6<7)*7"};
        int[] due = {7, 7, 7, 0, 7, 7, 7};
        for (String fault : faults) {
            for (int i = 0; i < right.length; i++) {
                HeldInTrust x = Check.made("7", "c94;o11");
                Check.rule(x, fault);
                check.due("behind " + fault + ": rule " + right[i], Check.rule(x, right[i]), 0);
                check.due("behind " + fault + ": MAY by " + right[i], x.hearer(0, 6), due[i]);
                Check.law(x, fault);
                check.due("behind law " + fault + ": MAY by " + right[i], x.hearer(0, 6), due[i]);
                check.due("behind law " + fault + ": law " + right[i], Check.law(x, right[i]), 0);
            }
        }
    }

    private static void partings() {
        HeldInTrust x = Check.made("5", "o41;o42;o43");
        Check.rule(x, "9");
        check.due("by their numbers, or as is left", x.tonight(), 3);
        x.nights(1);
        check.due("each have as much as they MAY", x.hearer(0, 3), 4);
        check.due("or as is left", x.hearer(1, 3), 1);
        check.due("or as is left: nothing", x.hearer(2, 3), 0);
        check.due("PAY for each of it", x.count(4), 20 + 4 + 2);
        check.due("nothing is left", x.count(3), 0);
        x.comes(0);
        x.nights(1);
        check.due("HEARERS who are PRESENT", x.hearer(0, 3), 4);
        check.due("HEARERS who are PRESENT", x.hearer(1, 3), 5);
        x.comes(1);
        x.comes(2);
        check.due("nobody is PRESENT: all goes into THE BOOK", x.nights(1), 5);
        x = Check.made("9", "o41;o42");
        Check.rule(x, "4");
        check.due("What is left then goes into THE BOOK", x.nights(1), 1);
        Check.songs(x, "8");
        check.due("just as much as they MAY: nothing is left", x.nights(1), 1);
        Check.songs(x, "0");
        check.due("a SONG of WORTH 0", x.nights(1), 1);
        check.due("a SONG of WORTH 0: nobody has HEARD more", x.count(8), 16);
        check.due("NIGHT is 1 more", x.count(2), 3);
        x = Check.made("9", "o91;o91");
        Check.rule(x, "3+(h>0)");
        x.nights(1);
        check.due("(as all is ahead of this NIGHT)", x.count(8), 6);
        x.nights(1);
        check.due("(as all is ahead of this NIGHT): the next one", x.count(8), 14);
        x = Check.made("9", "");
        check.due("without HEARERS all goes into THE BOOK", x.nights(2), 18);
    }

    private static void stakes() {
        HeldInTrust x = new HeldInTrust();
        x.stake(20);
        for (int night = 0; night < 21; night++) {
            int due = night <= 6 ? 20 : night <= 13 ? 22 : 24;
            check.due("If NIGHT by 7 (rest) is 6: ahead of NIGHT " + night, x.count(5), due);
            x.nights(1);
        }
        check.due("If NIGHT by 7 (rest) is 6: behind NIGHT 20", x.count(5), 26);
        int[][] rows = {
            {1, 9, 9}, {1, 10, 11}, {1, 19, 20}, {1, 20, 22}, {5, 1, 1}, {5, 2, 3}, {5, 3, 4}, {5, 0, 0},
            {-1, 9, 9}, {-1, 10, 9}, {-1, 19, 18}, {-1, 20, 18}, {-5, 1, 1}, {-5, 2, 1}, {-5, 3, 2}, {-5, 0, 0},
            {0, 17, 17}, {3, 6, 7}, {-3, 6, 5}, {3, 7, 9}, {-3, 7, 5},
        };
        for (int[] row : rows) {
            x = new HeldInTrust();
            x.gain(row[0]);
            if (row[1] > 0) {
                x.stake(row[1]);
            }
            x.nights(7);
            check.due("GAIN " + row[0] + " tenths of " + row[1] + " (cut to 0) more (below 0: less)", x.count(5), row[2]);
        }
        x = Stands.money(9999);
        x.stake(9999);
        x.gain(5);
        x.nights(7);
        check.due("STAKE 0 .. 9999", x.count(5), 9999);
        x = Stands.money(9090);
        x.stake(9090);
        x.nights(7);
        check.due("STAKE 0 .. 9999: just so much", x.count(5), 9999);
        x = Stands.money(9089);
        x.stake(9089);
        x.nights(7);
        check.due("STAKE 0 .. 9999: one less", x.count(5), 9997);
        x = Stands.money(9099);
        x.stake(9099);
        x.nights(7);
        check.due("STAKE 0 .. 9999: more than that", x.count(5), 9999);
    }

    private static void rows() {
        HeldInTrust x = new HeldInTrust();
        check.due("ROW: no numbers at first", x.count(13), 0);
        x = Stands.rich();
        String told = Stands.row(x);
        x.sign(0);
        x.end(0);
        Check.songs(x, "5093");
        Check.hearers(x, "");
        Check.rule(x, "");
        x.worth(1);
        x.hearer(0, 6);
        x.sheet(2, 4, 3, 1);
        x.comes(0);
        x.hum(0, 1);
        x.stake(1);
        x.gain(1);
        x.advance(1);
        x.undo();
        x.notes(7, 3, 0);
        x.look(1, 0);
        x.forget();
        x.counts(3, 50, 5);
        x.told(0, 0);
        x.deny();
        x.keep(1);
        x.again(1);
        x.count(3);
        check.same("ROW: numbers told last by a call that says so", Stands.row(x), told);
        x.sings(1, 10, 5);
        check.row("Fractions (0 by 1)", x, 0, 1);
        x.sings(1, 0, 5);
        check.row("Fractions in lowest terms: 1 by 1", x, 1, 1);
        x.bold(1, 2, 1, 4);
        check.row("Fractions in lowest terms: 4 by 10", x, 2, 5, 1);
        x.bold(1, 2, 1, 0);
        check.row("Fractions (0 by 1): in bold()", x, 0, 1, 0);
        x.bold(2, 2, 0, 0);
        check.row("Fractions in lowest terms: 1 by 1 in bold()", x, 1, 1, -1);
    }

    /** "Refused calls .. change nothing but THE TEXT, which a call that reads it empties." */
    private static void texts() {
        HeldInTrust x = Stands.rich();
        int[] some = {0, 1, 2, 3, 4, 5, 7, 8, 9, 10, 11, 12, 13, 14};
        for (int what : some) {
            check.due("an object with something of everything: count(" + what + ")", x.count(what) > 0, true);
        }
        check.due("an object with something of everything: GAIN", x.count(6), 13);
        check.fault("a call that reads it empties it: songs()", -2, "1x", HeldInTrust::songs);
        check.fault("a call that reads it empties it: hearers()", -2, "ox", HeldInTrust::hearers);
        check.fault("a call that reads it empties it: rule()", -2, "vx", HeldInTrust::rule);
        check.fault("a call that reads it empties it: spring()", -2, "nx", HeldInTrust::spring);
        check.fault("a call that reads it empties it: law()", -10001, "vx", HeldInTrust::law);
        String[] right = {"12", "o11", "v", "c0", "v"};
        for (int i = 0; i < right.length; i++) {
            x = Check.made("5", "o11");
            Check.say(x, right[i]);
            switch (i) {
                case 0: x.songs(); break;
                case 1: x.hearers(); break;
                case 2: x.rule(); break;
                case 3: x.spring(); break;
                default: x.law();
            }
            check.due("a call that reads it empties it: " + right[i], x.count(14), 0);
        }
    }
}
