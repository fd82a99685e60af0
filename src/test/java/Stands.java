import java.util.NoSuchElementException;

/** Objects that the tests of edges start from, and all that can be seen of an object. */
final class Stands {
    /** One call more on an object. */
    interface Call {
        long on(HeldInTrust x);
    }

    private Stands() {
    }

    /** An object that has something of everything: refused calls could spoil each of it. */
    static HeldInTrust rich() {
        HeldInTrust x = Check.made("5093", "o52;l31;c44;w90");
        Check.rule(x, "v-k-h/9+(c<3)");
        x.stake(7);
        x.gain(3);
        x.nights(5);
        x.comes(1);
        x.keep(0);
        x.nights(9);
        x.hum(2, 3);
        x.comes(3);
        x.look(4, 1);
        x.look(3, 0);
        x.told(1, 4);
        x.told(4, 2);
        x.tonight();
        Check.say(x, "12+34");
        return x;
    }

    /** All that can be seen of an object, in the end what undo() and again() bring back; it is spoilt by this. */
    static String seen(HeldInTrust x) {
        StringBuilder seen = new StringBuilder();
        seen.append("row").append(row(x)).append(" counts");
        for (int what = 0; what < 15; what++) {
            seen.append(' ').append(x.count(what));
        }
        seen.append(" songs");
        for (int n = 0; n < 16; n++) {
            seen.append(' ').append(x.worth(n));
        }
        hearers(x, seen);
        x.end(0);
        seen.append(" later ").append(x.later(30)).append(row(x));
        seen.append(" law ").append(x.law()).append(row(x));
        seen.append(" laws ").append(x.laws()).append(row(x)).append(" sure ").append(x.sure()).append(row(x));
        seen.append(" fits ").append(x.fits()).append(row(x));
        for (int i = 0; i < 13; i++) {
            seen.append(" undo ").append(x.undo());
            for (int what = 2; what < 10; what++) {
                seen.append(' ').append(x.count(what));
            }
        }
        for (int i = 0; i < 2; i++) {
            seen.append(" again ").append(x.again(i));
            hearers(x, seen);
            for (int what = 2; what < 8; what++) {
                seen.append(' ').append(x.count(what));
            }
        }
        return seen.toString();
    }

    private static void hearers(HeldInTrust x, StringBuilder seen) {
        for (int i = 0; i < x.count(1); i++) {
            seen.append(" hearer");
            for (int what = 0; what < 7; what++) {
                seen.append(' ').append(x.hearer(i, what));
            }
        }
    }

    static String row(HeldInTrust x) {
        StringBuilder row = new StringBuilder("[");
        for (int i = 0; i < x.count(13); i++) {
            row.append(i > 0 ? " " : "").append(x.row(i));
        }
        return row.append(']').toString();
    }

    /** HEARERS of WANT 9 and PAY 1 who have HEARD so much each, and nothing by nights (the rule is 0). */
    static HeldInTrust heard(int... heard) {
        StringBuilder lines = new StringBuilder();
        for (int i = 0; i < heard.length; i++) {
            lines.append(i > 0 ? ";" : "").append("o91");
        }
        HeldInTrust x = Check.made("9", lines.toString());
        Check.rule(x, "0");
        x.nights(60);
        x.nights(60);
        for (int i = 0; i < heard.length; i++) {
            for (int left = heard[i]; left > 0; left -= 9) {
                x.hum(i, Math.min(9, left));
            }
        }
        return x;
    }

    /** BOOK has so much (0 .. 9999), MONEY 20; the next SONGS are of WORTH 9, without HEARERS. */
    static HeldInTrust book(int coins) {
        HeldInTrust x = Check.made(String.valueOf(coins % 9), "");
        x.nights(1);
        Check.songs(x, "9");
        for (int left = coins / 9; left > 0; left -= 60) {
            x.nights(Math.min(60, left));
        }
        return x;
    }

    /** MONEY is so much (20 .. 9999), paid by a HEARER of WANT 1 and PAY 1 and one of WANT 9 and PAY 9; BOOK is 0. */
    static HeldInTrust money(int coins) {
        HeldInTrust x = Check.made("1", "o11;o99");
        Check.rule(x, "9");
        for (int left = (coins - 20) % 81; left > 0; left -= 60) {
            x.nights(Math.min(60, left));
        }
        Check.songs(x, "9");
        x.comes(0);
        for (int left = (coins - 20) / 81; left > 0; left -= 60) {
            x.nights(Math.min(60, left));
        }
        x.comes(0);
        return x;
    }

    /** Whether a call throws NoSuchElementException. */
    static boolean throwsNone(HeldInTrust x, Call call) {
        try {
            call.on(x);
        } catch (NoSuchElementException e) {
            return true;
        }
        return false;
    }
}
