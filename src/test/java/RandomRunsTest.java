import java.util.NoSuchElementException;
import java.util.Random;

/** Runs of calls drawn by a fixed seed, held against PlainTrust: every promise, and odd arguments. */
public final class RandomRunsTest {
    private static final String[] RULES = {
        "", "v", "9", "0", "w-c", "9-c*2", "(h<5)*3+(h>4)", "v/2-k", "n", "p", "-(-w)", "v*(p>4)",
        "c<3", "h/3", "w=5", "(v-k)*(n<3)+(n>2)*2", "--v--k", "999*999*999*999", "7/(h-3)", "w-h/5*2",
        "((((v))))", "(c>4)*9+(c<5)", "(h-2)*(h-2)", "9-h", "v*10/p-3",
    };
    private static final String RULE_SIGNS = "vkhwpnc0123456789+-*/<>=()";
    private static int calls;

    private final Random random;
    private final int number;
    private HeldInTrust x = new HeldInTrust();
    private PlainTrust plain = new PlainTrust();
    private final StringBuilder log = new StringBuilder();

    private RandomRunsTest(int number) {
        this.number = number;
        this.random = new Random(1000003L * number + 7);
    }

    public static void main(String[] args) {
        int runs = args.length > 0 ? Integer.parseInt(args[0]) : 400;
        int from = args.length > 1 ? Integer.parseInt(args[1]) : 0;
        for (int i = from; i < from + runs; i++) {
            if (!new RandomRunsTest(i).run()) {
                System.exit(1);
            }
        }
        System.out.println(calls + " calls of " + runs + " runs are as due");
    }

    private boolean run() {
        int most = 40 + random.nextInt(80);
        boolean small = random.nextInt(4) != 0;
        setUp(small);
        for (int i = 0; i < most; i++) {
            try {
                step(small);
            } catch (AssertionError wrong) {
                System.out.println("run " + number + ": " + wrong.getMessage() + "\n" + log);
                return false;
            } catch (RuntimeException thrown) {
                System.out.println("run " + number + ": " + thrown + "\n" + log);
                thrown.printStackTrace(System.out);
                return false;
            }
        }
        return true;
    }

    private void setUp(boolean small) {
        say(digits(1 + random.nextInt(16)));
        same("songs()", x.songs(), plain.songs());
        say(lines(1 + random.nextInt(small ? 4 : 8)));
        same("hearers()", x.hearers(), plain.hearers());
        if (random.nextBoolean()) {
            say(RULES[random.nextInt(RULES.length)]);
            same("rule()", x.rule(), plain.rule());
        }
        if (random.nextInt(6) == 0) {
            growRich();
        }
    }

    /** So that the limits of what is kept are met too. */
    private void growRich() {
        int gain = random.nextInt(11) - 5;
        same("gain(" + gain + ")", x.gain(gain), plain.gain(gain));
        for (int i = random.nextInt(22); i > 0; i--) {
            same("nights(60)", x.nights(60), plain.nights(60));
            int n = random.nextInt(plain.w.money + 1);
            same("stake(" + n + ")", x.stake(n), plain.stake(n));
        }
    }

    private String digits(int many) {
        StringBuilder s = new StringBuilder();
        for (int i = 0; i < many; i++) {
            s.append((char) ('0' + random.nextInt(10)));
        }
        return s.toString();
    }

    private String lines(int many) {
        StringBuilder s = new StringBuilder();
        for (int i = 0; i < many; i++) {
            s.append(i > 0 ? ";" : "").append("olcw".charAt(random.nextInt(4)));
            s.append(1 + random.nextInt(9)).append(random.nextInt(10));
        }
        return s.toString();
    }

    private String acts(int most) {
        StringBuilder s = new StringBuilder();
        for (int i = random.nextInt(most + 1); i > 0; i--) {
            char c = "ncchsba".charAt(random.nextInt(7));
            s.append(c);
            s.append(c == 'n' || c == 'c' || c == 'h' ? random.nextInt(6) : 1 + random.nextInt(9));
            if (c == 'h') {
                s.append(random.nextInt(5));
            }
        }
        return s.toString();
    }

    private String rules() {
        if (random.nextInt(3) != 0) {
            return RULES[random.nextInt(RULES.length)];
        }
        StringBuilder s = new StringBuilder();
        for (int i = random.nextInt(50); i > 0; i--) {
            s.append(RULE_SIGNS.charAt(random.nextInt(RULE_SIGNS.length())));
        }
        return s.toString();
    }

    /** A rule that is grown by its grammar, so that long ones are right ones too. */
    private String grown(int deep) {
        switch (random.nextInt(deep > 3 ? 3 : 7)) {
            case 0:
                return String.valueOf(random.nextInt(1000));
            case 1:
            case 2:
                return String.valueOf("vkhwpnc".charAt(random.nextInt(7)));
            case 3:
                return "-" + grown(deep);
            case 4:
                return "(" + grown(deep + 1) + "<>=".charAt(random.nextInt(3)) + grown(deep + 1) + ")";
            default:
                return grown(deep + 1) + "+-*/".charAt(random.nextInt(4)) + grown(deep + 1);
        }
    }

    private String spoilt(String s) {
        if (random.nextInt(3) != 0) {
            return s;
        }
        StringBuilder b = new StringBuilder(s);
        int at = random.nextInt(b.length() + 1);
        switch (random.nextInt(4)) {
            case 0:
                b.insert(at, (char) random.nextInt(256));
                break;
            case 1:
                b.setLength(at);
                break;
            case 2:
                b.insert(at, "();-0n1o".charAt(random.nextInt(8)));
                break;
            default:
                b.append(s);
        }
        return b.length() > 80 ? b.substring(0, 80) : b.toString();
    }

    private void say(String s) {
        log.append("say \"").append(s).append("\"\n");
        for (int i = 0; i < s.length(); i += 4) {
            int v = 0;
            for (int j = 0; j < 4; j++) {
                v = v << 8 | (i + j < s.length() ? s.charAt(i + j) : random.nextInt(256));
            }
            same("sign", x.sign(v), plain.sign(v));
        }
        same("end", x.end(s.length()) ? 1 : 0, plain.end(s.length()) ? 1 : 0);
    }

    private int upTo(int least, int most) {
        int odd = random.nextInt(40);
        if (odd == 0) {
            return random.nextInt();
        }
        if (odd == 1) {
            return least - 1;
        }
        if (odd == 2) {
            return most + 1;
        }
        return least + random.nextInt(most - least + 1);
    }

    private void same(String call, long got, long want) {
        calls++;
        log.append(call).append(" -> ").append(want).append('\n');
        if (got != want) {
            throw new AssertionError(call + " answered " + got + ", due is " + want);
        }
    }

    private void sameState(String call) {
        for (int what = -1; what <= 15; what++) {
            if (x.count(what) != plain.count(what)) {
                throw new AssertionError("behind " + call + " count(" + what + ") is " + x.count(what)
                    + ", due is " + plain.count(what));
            }
        }
        for (int i = 0; i < plain.row.size(); i++) {
            if (x.row(i) != plain.row(i)) {
                throw new AssertionError("behind " + call + " row(" + i + ") is " + x.row(i) + ", due is " + plain.row(i));
            }
        }
    }

    private void sameHearer() {
        int hearer = upTo(0, 7);
        int what = upTo(0, 6);
        long got = -99;
        long want = -99;
        try {
            got = x.hearer(hearer, what);
        } catch (NoSuchElementException e) {
            got = -77;
        }
        try {
            want = plain.hearer(hearer, what);
        } catch (NoSuchElementException e) {
            want = -77;
        }
        same("hearer(" + hearer + ", " + what + ")", got, want);
    }

    private void sameRow() {
        int i = upTo(0, 9);
        long got;
        long want;
        try {
            got = x.row(i);
        } catch (NoSuchElementException e) {
            got = -77;
        }
        try {
            want = plain.row(i);
        } catch (NoSuchElementException e) {
            want = -77;
        }
        same("row(" + i + ")", got, want);
    }

    private void step(boolean small) {
        int kind = random.nextInt(54);
        int a;
        int b;
        int c;
        int d;
        switch (kind) {
            case 0: a = random.nextInt(); same("sign(" + a + ")", x.sign(a), plain.sign(a)); break;
            case 1: a = upTo(0, 80); same("end(" + a + ")", x.end(a) ? 1 : 0, plain.end(a) ? 1 : 0); break;
            case 2: x.end(0); plain.end(0); say(spoilt(digits(random.nextInt(17)))); same("songs()", x.songs(), plain.songs()); break;
            case 3:
                if (random.nextInt(8) == 0) {
                    x.end(0); plain.end(0); say(spoilt(lines(random.nextInt(small ? 2 : 9))));
                    same("hearers()", x.hearers(), plain.hearers());
                }
                break;
            case 4: x.end(0); plain.end(0); say(spoilt(cut(random.nextBoolean() ? rules() : grown(0)))); same("rule()", x.rule(), plain.rule()); break;
            case 5: sameHearer(); break;
            case 6: a = upTo(0, 99); same("worth(" + a + ")", x.worth(a), plain.worth(a)); break;
            case 7:
                a = upTo(0, 3); b = upTo(-1, 8); c = random.nextBoolean() ? random.nextInt() : random.nextInt(120) - 10; d = random.nextBoolean() ? random.nextInt() : random.nextInt(40) - 20;
                same("sheet(" + a + ", " + b + ", " + c + ", " + d + ")", x.sheet(a, b, c, d), plain.sheet(a, b, c, d)); break;
            case 8: case 9: a = upTo(0, random.nextInt(3) == 0 ? 60 : 5); same("nights(" + a + ")", x.nights(a), plain.nights(a)); break;
            case 10: a = upTo(0, 7); same("comes(" + a + ")", x.comes(a), plain.comes(a)); break;
            case 11: a = upTo(0, 4); b = upTo(1, 9); same("hum(" + a + ", " + b + ")", x.hum(a, b), plain.hum(a, b)); break;
            case 12:
                a = random.nextInt(5) == 0 ? upTo(-9999, 9999) : upTo(-30, 40);
                same("stake(" + a + ")", x.stake(a), plain.stake(a)); break;
            case 13: a = upTo(-5, 5); same("gain(" + a + ")", x.gain(a), plain.gain(a)); break;
            case 14: a = upTo(1, 30); same("advance(" + a + ")", x.advance(a), plain.advance(a)); break;
            case 15: x.end(0); plain.end(0); say(spoilt(cut(acts(25)))); same("spring()", x.spring(), plain.spring()); break;
            case 16: same("undo()", x.undo(), plain.undo()); break;
            case 17: same("tonight()", x.tonight(), plain.tonight()); break;
            case 18: a = upTo(0, 99); same("later(" + a + ")", x.later(a), plain.later(a)); break;
            case 19: a = random.nextBoolean() ? upTo(0, 9999) : upTo(0, 400); same("enough(" + a + ")", x.enough(a), plain.enough(a)); break;
            case 20: same("drains()", x.drains(), plain.drains()); break;
            case 21: a = upTo(0, 7); b = upTo(0, 99); same("hears(" + a + ", " + b + ")", x.hears(a, b), plain.hears(a, b)); break;
            case 22: a = upTo(0, 60); same("quiet(" + a + ")", x.quiet(a), plain.quiet(a)); break;
            case 23: a = upTo(0, 9); same("admits(" + a + ")", x.admits(a), plain.admits(a)); break;
            case 24:
                if (plain.w.hearers.size() < 6 || random.nextInt(60) == 0) {
                    a = upTo(0, 18); same("plans(" + a + ")", x.plans(a), plain.plans(a));
                }
                break;
            case 25: same("fills()", x.fills(), plain.fills()); break;
            case 26:
                if (plain.w.present() < 7 || random.nextInt(10) == 0) {
                    same("order()", x.order(), plain.order());
                }
                break;
            case 27: a = random.nextBoolean() ? upTo(0, 9999) : plain.w.money + random.nextInt(200); same("raises(" + a + ")", x.raises(a), plain.raises(a)); break;
            case 28: a = upTo(0, 9999); b = upTo(0, 30); same("grows(" + a + ", " + b + ")", x.grows(a, b), plain.grows(a, b)); break;
            case 29: a = random.nextBoolean() ? upTo(0, 999) : upTo(0, 60); same("adds(" + a + ")", x.adds(a), plain.adds(a)); break;
            case 30: a = random.nextBoolean() ? upTo(0, 999) : upTo(0, 60); same("nearest(" + a + ")", x.nearest(a), plain.nearest(a)); break;
            case 31: a = random.nextBoolean() ? upTo(0, 999) : upTo(0, 60); same("awards(" + a + ")", x.awards(a), plain.awards(a)); break;
            case 32: same("envy()", x.envy(), plain.envy()); break;
            case 33:
                a = upTo(0, 20); b = upTo(1, 20); c = upTo(0, 8); d = upTo(0, 10);
                same("bold(" + a + ", " + b + ", " + c + ", " + d + ")", x.bold(a, b, c, d), plain.bold(a, b, c, d)); break;
            case 34: a = upTo(0, 60); b = upTo(1, 9); c = upTo(0, 9); same("notes(" + a + ", " + b + ", " + c + ")", x.notes(a, b, c), plain.notes(a, b, c)); break;
            case 35: case 36: a = upTo(0, 9); b = upTo(0, 1); if (b == 1 && random.nextBoolean()) { a = 4; } same("look(" + a + ", " + b + ")", x.look(a, b), plain.look(a, b)); break;
            case 37: same("forget()", x.forget(), plain.forget()); break;
            case 38: same("laws()", x.laws(), plain.laws()); break;
            case 39: same("sure()", x.sure(), plain.sure()); break;
            case 40: same("tries()", x.tries(), plain.tries()); break;
            case 41: a = upTo(1, 10); b = random.nextInt(3) == 0 ? upTo(0, 99) : upTo(0, 40); c = upTo(0, 10); same("sings(" + a + ", " + b + ", " + c + ")", x.sings(a, b, c), plain.sings(a, b, c)); break;
            case 42:
                if (random.nextInt(3) == 0) {
                    a = upTo(1, 10); b = upTo(0, 100); c = upTo(0, 10); same("counts(" + a + ", " + b + ", " + c + ")", x.counts(a, b, c), plain.counts(a, b, c));
                }
                break;
            case 43: a = upTo(0, 4); b = upTo(0, 9); same("told(" + a + ", " + b + ")", x.told(a, b), plain.told(a, b)); break;
            case 44: same("deny()", x.deny(), plain.deny()); break;
            case 45: same("fits()", x.fits(), plain.fits()); break;
            case 46: same("ask()", x.ask(), plain.ask()); break;
            case 47: a = upTo(0, 20); b = upTo(0, 5); c = upTo(0, 5); same("rests(" + a + ", " + b + ", " + c + ")", x.rests(a, b, c), plain.rests(a, b, c)); break;
            case 48: x.end(0); plain.end(0); say(spoilt(cut(random.nextBoolean() ? rules() : grown(0)))); same("law()", x.law(), plain.law()); break;
            case 49: a = random.nextInt(); b = upTo(1, 60); same("years(" + a + ", " + b + ")", x.years(a, b), plain.years(a, b)); break;
            case 50: a = upTo(0, 1); same("keep(" + a + ")", x.keep(a) ? 1 : 0, plain.keep(a) ? 1 : 0); break;
            case 51: a = upTo(0, 1); same("again(" + a + ")", x.again(a) ? 1 : 0, plain.again(a) ? 1 : 0); break;
            case 52: a = upTo(0, 14); same("count(" + a + ")", x.count(a), plain.count(a)); break;
            default: sameRow();
        }
        sameState("call " + kind);
    }

    private static String cut(String s) {
        return s.length() > 80 ? s.substring(0, 80) : s;
    }
}
