import java.util.NoSuchElementException;
import java.util.function.Consumer;

/** What the tests share: it counts answers that are not the ones due, and tells them. */
final class Check {
    private int wrong;

    void due(String call, long got, long want) {
        if (got != want) {
            wrong++;
            System.out.println(call + " answered " + got + ", due is " + want);
        }
    }

    void due(String call, boolean got, boolean want) {
        due(call, got ? 1 : 0, want ? 1 : 0);
    }

    void row(String call, HeldInTrust x, long... want) {
        due("numbers of the ROW behind " + call, x.count(13), want.length);
        for (int i = 0; i < want.length && i < x.count(13); i++) {
            due("row(" + i + ") behind " + call, x.row(i), want[i]);
        }
    }

    /** What is seen of an object is what is seen of its twin. */
    void same(String sentence, String got, String want) {
        if (!got.equals(want)) {
            wrong++;
            System.out.println(sentence + "\n  is   " + got + "\n  due  " + want);
        }
    }

    /** A call with its answer on an object that has something of everything; nothing changes by it. */
    void unchanged(String sentence, long want, Stands.Call call) {
        unchanged(sentence, want, x -> { }, call);
    }

    /** The same, both twins having been brought where the sentence looks at. */
    void unchanged(String sentence, long want, Consumer<HeldInTrust> ahead, Stands.Call call) {
        HeldInTrust x = Stands.rich();
        HeldInTrust twin = Stands.rich();
        ahead.accept(x);
        ahead.accept(twin);
        due(sentence, call.on(x), want);
        same(sentence + ": nothing changes", Stands.seen(x), Stands.seen(twin));
    }

    /** A text is refused at a place: it is emptied, and nothing else changes. */
    void fault(String sentence, long want, String text, Stands.Call reads) {
        HeldInTrust x = Stands.rich();
        HeldInTrust twin = Stands.rich();
        x.end(0);
        twin.end(0);
        Check.say(x, text);
        due(sentence + " \"" + text + "\"", reads.on(x), want);
        same(sentence + ": the text is empty, nothing else changes", Stands.seen(x), Stands.seen(twin));
    }

    void noRow(HeldInTrust x, int i) {
        boolean thrown = false;
        try {
            x.row(i);
        } catch (NoSuchElementException e) {
            thrown = true;
        }
        due("row(" + i + ") throws", thrown, true);
    }

    void noHearer(HeldInTrust x, int hearer, int what) {
        boolean thrown = false;
        try {
            x.hearer(hearer, what);
        } catch (NoSuchElementException e) {
            thrown = true;
        }
        due("hearer(" + hearer + ", " + what + ") throws", thrown, true);
    }

    /** Puts signs behind THE TEXT as a caller does: four by four, what is too much cut off. */
    static void say(HeldInTrust x, String signs) {
        int had = x.count(14);
        for (int i = 0; i < signs.length(); i += 4) {
            int v = 0;
            for (int j = 0; j < 4; j++) {
                v = v << 8 | (i + j < signs.length() ? signs.charAt(i + j) : 0);
            }
            x.sign(v);
        }
        x.end(had + signs.length());
    }

    static int songs(HeldInTrust x, String signs) {
        say(x, signs);
        return x.songs();
    }

    static int hearers(HeldInTrust x, String signs) {
        say(x, signs);
        return x.hearers();
    }

    static int rule(HeldInTrust x, String signs) {
        say(x, signs);
        return x.rule();
    }

    static int spring(HeldInTrust x, String signs) {
        say(x, signs);
        return x.spring();
    }

    static int law(HeldInTrust x, String signs) {
        say(x, signs);
        return x.law();
    }

    /** An object with songs and hearers. */
    static HeldInTrust made(String songs, String hearers) {
        HeldInTrust x = new HeldInTrust();
        songs(x, songs);
        hearers(x, hearers);
        return x;
    }

    void end() {
        System.out.println(wrong == 0 ? "all answers are as due" : wrong + " answers are not as due");
        if (wrong != 0) {
            System.exit(1);
        }
    }
}
