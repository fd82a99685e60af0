/** Every sign at every place of texts that are right or nearly so: the fault is told where it is. */
public final class TextFaultsTest {
    private static final Check check = new Check();

    public static void main(String[] args) {
        String[] rules = {
            "", "v", "123", "-v", "(v)", "v<k", "((((v))))", "(v<k)*2+h/10", "v-k-h/10", "--(2-(v=3))>w",
            "(((1)))+((((2*(3", "v+v+v+v+v+v+v+v+v+v+v+v+v+v+v+v+v+v+v+10", "v+v+v+v+v+v+v+v+v+v+v+v+v+v+v+v+v+v+v+10+v",
        };
        for (String rule : rules) {
            spoil(rule, 0);
        }
        String[] lines = {"", "o11", "w90;c19", "l55;l55;l55;l55;l55;l55;l55;l55", "o11;o11;o11;o11;o11;o11;o11;o11;o11"};
        for (String line : lines) {
            spoil(line, 1);
        }
        String[] springs = {"", "n1", "c0", "h00", "s1b1a1", "n1h11c1", "n1".repeat(30), "h11".repeat(20), "h11".repeat(21)};
        for (String spring : springs) {
            spoil(spring, 2);
        }
        String[] songs = {"", "0", "0123456789", "0123456789012345", "01234567890123456"};
        for (String song : songs) {
            spoil(song, 3);
        }
        check.end();
    }

    private static void spoil(String right, int kind) {
        compare(right, kind, 0);
        for (int p = 0; p <= right.length(); p++) {
            compare(right.substring(0, p), kind, 0);
            for (int sign = 0; sign < 256; sign++) {
                String rest = p < right.length() ? right.substring(p + 1) : "";
                compare(right.substring(0, p) + (char) sign + rest, kind, 0);
                compare(right.substring(0, p) + (char) sign + right.substring(p), kind, kind == 1 ? p % 9 : 0);
            }
        }
    }

    /** Against PlainTrust, which judges texts by itself; some hearers are there already. */
    private static void compare(String text, int kind, int hearers) {
        HeldInTrust x = new HeldInTrust();
        PlainTrust plain = new PlainTrust();
        for (int i = 0; i < hearers; i++) {
            Check.hearers(x, "o11");
            plain.text = "o11";
            plain.hearers();
        }
        Check.say(x, text);
        plain.text = text;
        int got;
        int due;
        switch (kind) {
            case 0:
                got = x.rule();
                due = plain.rule();
                break;
            case 1:
                got = x.hearers();
                due = plain.hearers();
                break;
            case 2:
                got = x.spring();
                due = plain.spring();
                break;
            default:
                got = x.songs();
                due = plain.songs();
        }
        if (got != due || x.count(14) != 0 || x.count(1) != plain.count(1) || x.count(0) != plain.count(0)) {
            check.due("text \"" + text + "\" of kind " + kind, got, due);
            check.due("what came of \"" + text + "\"", x.count(1) * 100 + x.count(0), plain.count(1) * 100 + plain.count(0));
        }
    }
}
