import java.util.NoSuchElementException;

/** What the tests share: it counts answers that are not the ones due, and tells them. */
final class Check {
    private int wrong;

    void due(String call, long got, long want) {
        if (got != want) {
            wrong++;
            System.out.println(call + " answered " + got + ", due is " + want);
        }
    }

    void due(String call, boolean got, boolean want) {
        due(call, got ? 1 : 0, want ? 1 : 0);
    }

    void row(String call, HeldInTrust x, long... want) {
        due("numbers of the ROW behind " + call, x.count(13), want.length);
        for (int i = 0; i < want.length && i < x.count(13); i++) {
            due("row(" + i + ") behind " + call, x.row(i), want[i]);
        }
    }

    void noRow(HeldInTrust x, int i) {
        boolean thrown = false;
        try {
            x.row(i);
        } catch (NoSuchElementException e) {
            thrown = true;
        }
        due("row(" + i + ") throws", thrown, true);
    }

    void noHearer(HeldInTrust x, int hearer, int what) {
        boolean thrown = false;
        try {
            x.hearer(hearer, what);
        } catch (NoSuchElementException e) {
            thrown = true;
        }
        due("hearer(" + hearer + ", " + what + ") throws", thrown, true);
    }

    /** Puts signs behind THE TEXT as a caller does: four by four, what is too much cut off. */
    static void say(HeldInTrust x, String signs) {
        int had = x.count(14);
        for (int i = 0; i < signs.length(); i += 4) {
            int v = 0;
            for (int j = 0; j < 4; j++) {
                v = v << 8 | (i + j < signs.length() ? signs.charAt(i + j) : 0);
            }
            x.sign(v);
        }
        x.end(had + signs.length());
    }

    static int songs(HeldInTrust x, String signs) {
        say(x, signs);
        return x.songs();
    }

    static int hearers(HeldInTrust x, String signs) {
        say(x, signs);
        return x.hearers();
    }

    static int rule(HeldInTrust x, String signs) {
        say(x, signs);
        return x.rule();
    }

    static int spring(HeldInTrust x, String signs) {
        say(x, signs);
        return x.spring();
    }

    static int law(HeldInTrust x, String signs) {
        say(x, signs);
        return x.law();
    }

    /** An object with songs and hearers. */
    static HeldInTrust made(String songs, String hearers) {
        HeldInTrust x = new HeldInTrust();
        songs(x, songs);
        hearers(x, hearers);
        return x;
    }

    void end() {
        System.out.println(wrong == 0 ? "all answers are as due" : wrong + " answers are not as due");
        if (wrong != 0) {
            System.exit(1);
        }
    }
}
