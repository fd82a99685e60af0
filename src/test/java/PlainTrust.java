import java.math.BigInteger;
import java.util.ArrayList;
import java.util.Arrays;
import java.util.List;
import java.util.NoSuchElementException;

/**
 * The document once more, as slowly and plainly as it can be said: RandomRunsTest holds the class
 * against it. It shares no code with the class and takes other ways (trees of chances and moves,
 * all orders, texts judged by trying what may follow them).
 */
final class PlainTrust {
    static final int NONE = -1;

    static final class Hearer {
        int sort, want, pay, heard, surcharged;
        boolean present = true;

        Hearer copy() {
            Hearer h = new Hearer();
            h.sort = sort;
            h.want = want;
            h.pay = pay;
            h.heard = heard;
            h.surcharged = surcharged;
            h.present = present;
            return h;
        }
    }

    static final class World {
        int night, book, money = 20, stake, gain = 1;
        List<Hearer> hearers = new ArrayList<>();

        World copy() {
            World w = new World();
            w.night = night;
            w.book = book;
            w.money = money;
            w.stake = stake;
            w.gain = gain;
            for (Hearer h : hearers) {
                w.hearers.add(h.copy());
            }
            return w;
        }

        int present() {
            int c = 0;
            for (Hearer h : hearers) {
                c += h.present ? 1 : 0;
            }
            return c;
        }
    }

    String text = "";
    String songs = "0";
    String rule = "";
    World w = new World();
    List<World> undos = new ArrayList<>();
    World[] kept = new World[2];
    List<int[]> looks = new ArrayList<>();
    List<int[]> said = new ArrayList<>();
    List<Long> row = new ArrayList<>();

    void tell(long... numbers) {
        row.clear();
        for (long n : numbers) {
            row.add(n);
        }
    }

    // ---- rules: an evaluator over the text itself

    static final class Bad extends RuntimeException {
        private static final long serialVersionUID = 1;
        final int place;

        Bad(int place) {
            this.place = place;
        }
    }

    static final class Reader {
        final String s;
        final int[] f;
        int p = 0;
        int deep = 0;

        Reader(String s, int[] f) {
            this.s = s;
            this.f = f;
        }

        char c() {
            return p < s.length() ? s.charAt(p) : '\uffff';
        }

        int whole() {
            int v = expression();
            if (p < s.length()) {
                throw new Bad(p);
            }
            return v;
        }

        int expression() {
            int a = sum();
            char o = c();
            if (o != '<' && o != '>' && o != '=') {
                return a;
            }
            p++;
            int b = sum();
            return (o == '<' ? a < b : o == '>' ? a > b : a == b) ? 1 : 0;
        }

        int sum() {
            int a = product();
            while (c() == '+' || c() == '-') {
                char o = s.charAt(p++);
                int b = product();
                a = o == '+' ? a + b : a - b;
            }
            return a;
        }

        int product() {
            int a = ahead();
            while (c() == '*' || c() == '/') {
                char o = s.charAt(p++);
                int b = ahead();
                a = o == '*' ? a * b : b == 0 ? 0 : a / b;
            }
            return a;
        }

        int ahead() {
            if (c() == '-') {
                p++;
                return -ahead();
            }
            return thing();
        }

        int thing() {
            char o = c();
            int letter = "vkhwpnc".indexOf(o);
            if (letter >= 0) {
                p++;
                return f[letter];
            }
            if (o == '(' && deep < 4) {
                deep++;
                p++;
                int v = expression();
                if (c() != ')') {
                    throw new Bad(p);
                }
                p++;
                deep--;
                return v;
            }
            if (o < '0' || o > '9') {
                throw new Bad(p);
            }
            int v = 0;
            for (int d = 0; d < 3 && c() >= '0' && c() <= '9'; d++) {
                v = v * 10 + (s.charAt(p++) - '0');
            }
            return v;
        }
    }

    /** -1 if it is a rule, else the place of the fault. */
    static int ruleFault(String t) {
        if (t.isEmpty()) {
            return -1;
        }
        String s = t.substring(0, Math.min(40, t.length()));
        try {
            new Reader(s, new int[7]).whole();
        } catch (Bad bad) {
            return bad.place;
        }
        return t.length() > 40 ? 40 : -1;
    }

    int worthOn(int night) {
        return songs.charAt(night % songs.length()) - '0';
    }

    int may(World at, Hearer h, int c, String by) {
        int[] f = {worthOn(at.night), h.sort, h.heard, h.want, h.pay, at.night % 7, c};
        int v = new Reader(by.isEmpty() ? "v-k-h/10" : by, f).whole();
        return Math.max(0, Math.min(h.want, v));
    }

    /** Parts of those PRESENT in an order (null: by their numbers); the last number is what is left. */
    int[] parts(World at, List<Integer> order, String by) {
        int[] parts = new int[at.hearers.size() + 1];
        int left = worthOn(at.night);
        for (int i : order) {
            parts[i] = Math.min(left, may(at, at.hearers.get(i), at.present(), by));
            left -= parts[i];
        }
        parts[parts.length - 1] = left;
        return parts;
    }

    static List<Integer> presentOnes(World at) {
        List<Integer> list = new ArrayList<>();
        for (int i = 0; i < at.hearers.size(); i++) {
            if (at.hearers.get(i).present) {
                list.add(i);
            }
        }
        return list;
    }

    static int paid(World at, int[] parts) {
        int sum = 0;
        for (int i = 0; i < at.hearers.size(); i++) {
            sum += parts[i] * at.hearers.get(i).pay;
        }
        return sum;
    }

    int[] night(World at, String by) {
        int[] parts = parts(at, presentOnes(at), by);
        int paid = paid(at, parts);
        for (int i = 0; i < at.hearers.size(); i++) {
            Hearer h = at.hearers.get(i);
            h.heard = Math.min(99, h.heard + parts[i]);
        }
        at.money = Math.min(9999, at.money + paid);
        at.book = Math.min(9999, at.book + parts[parts.length - 1]);
        if (at.night % 7 == 6) {
            at.stake = week(at.stake, at.gain);
        }
        at.night++;
        return parts;
    }

    static int week(int coins, int gain) {
        int tenths = Math.abs(coins * gain) / 10;
        return Math.max(0, Math.min(9999, gain < 0 ? coins - tenths : coins + tenths));
    }

    World alone(World at, int who) {
        World other = at.copy();
        for (int i = 0; i < other.hearers.size(); i++) {
            other.hearers.get(i).present = (who >> i & 1) == 1;
        }
        return other;
    }

    // ---- the face

    int sign(int v) {
        if (text.length() + 4 > 80) {
            return NONE;
        }
        for (int i = 3; i >= 0; i--) {
            text += (char) (v >>> 8 * i & 255);
        }
        return text.length();
    }

    boolean end(int n) {
        if (n < 0 || n > text.length()) {
            return false;
        }
        text = text.substring(0, n);
        return true;
    }

    String taken() {
        String t = text;
        text = "";
        return t;
    }

    int songs() {
        String t = taken();
        for (int p = 0; p < t.length(); p++) {
            if (p == 16 || !Character.isDigit(t.charAt(p))) {
                return -1 - p;
            }
        }
        if (t.isEmpty()) {
            return -1;
        }
        songs = t;
        return t.length();
    }

    int hearers() {
        String t = taken();
        if (t.isEmpty()) {
            return 0;
        }
        List<Hearer> more = new ArrayList<>();
        int p = 0;
        while (true) {
            if (w.hearers.size() + more.size() == 8) {
                return -1 - p;
            }
            Hearer h = new Hearer();
            if (p >= t.length() || "olcw".indexOf(t.charAt(p)) < 0) {
                return -1 - p;
            }
            h.sort = "olcw".indexOf(t.charAt(p++));
            if (p >= t.length() || "123456789".indexOf(t.charAt(p)) < 0) {
                return -1 - p;
            }
            h.want = t.charAt(p++) - '0';
            if (p >= t.length() || "0123456789".indexOf(t.charAt(p)) < 0) {
                return -1 - p;
            }
            h.pay = t.charAt(p++) - '0';
            more.add(h);
            if (p == t.length()) {
                break;
            }
            if (p == 31 || t.charAt(p) != ';') {
                return -1 - p;
            }
            p++;
        }
        w.hearers.addAll(more);
        undos.clear();
        kept[0] = null;
        kept[1] = null;
        return more.size();
    }

    int rule() {
        String t = taken();
        int fault = ruleFault(t);
        if (fault >= 0) {
            return -1 - fault;
        }
        rule = t;
        return 0;
    }

    int hearer(int i, int what) {
        if (i < 0 || i >= w.hearers.size() || what < 0 || what > 6) {
            throw new NoSuchElementException();
        }
        Hearer h = w.hearers.get(i);
        int[] all = {h.sort, h.want, h.pay, h.heard, h.surcharged, h.present ? 1 : 0, may(w, h, w.present(), rule)};
        return all[what];
    }

    int worth(int n) {
        return n < 0 || n > 99 ? NONE : worthOn(w.night + n);
    }

    int sheet(int kind, int n, int f, int step) {
        if (kind < 0 || kind > 3 || n > 8) {
            return NONE;
        }
        if (kind < 3 && n < 0) {
            return -2;
        }
        int entry = f;
        for (int i = 0; i < w.hearers.size(); i++) {
            int v = kind == 0 ? (byte) entry : kind == 1 ? (short) entry : entry;
            w.hearers.get(i).heard = kind == 3 || i >= n ? 0 : Math.max(0, Math.min(99, v));
            entry += step;
        }
        return kind == 3 ? -3 : count(8);
    }

    int nights(int n) {
        if (n < 0 || n > 60) {
            return NONE;
        }
        World was = w.copy();
        for (int i = 0; i < n; i++) {
            night(w, rule);
        }
        if (n > 0) {
            remember(was);
        }
        tell(w.money - was.money, w.stake);
        return w.book;
    }

    void remember(World was) {
        undos.add(was);
        if (undos.size() > 12) {
            undos.remove(0);
        }
    }

    boolean has(int hearer) {
        return hearer >= 0 && hearer < w.hearers.size();
    }

    int comes(int hearer) {
        World was = w.copy();
        int a = come(w, hearer);
        return a < 0 ? a : kept(was, a);
    }

    int kept(World was, int answer) {
        remember(was);
        return answer;
    }

    int come(World at, int hearer) {
        if (!has(hearer)) {
            return NONE;
        }
        at.hearers.get(hearer).present = !at.hearers.get(hearer).present;
        return at.present();
    }

    int hum(int hearer, int n) {
        World was = w.copy();
        int a = hummed(w, hearer, n);
        return a < 0 ? a : kept(was, a);
    }

    int hummed(World at, int hearer, int n) {
        if (!has(hearer) || n < 1 || n > 9) {
            return NONE;
        }
        if (at.book < n) {
            return -2;
        }
        Hearer h = at.hearers.get(hearer);
        at.book -= n;
        for (int i = 0; i < n; i++) {
            h.heard = Math.min(99, h.heard + 1);
            at.money = Math.min(9999, at.money + 2 * h.pay);
        }
        h.surcharged = Math.min(99, h.surcharged + 1);
        return at.money;
    }

    int stake(int n) {
        World was = w.copy();
        int a = staked(n);
        return a < 0 ? a : kept(was, a);
    }

    int staked(int n) {
        if (n == 0 || n > 9999 || n < -9999) {
            return NONE;
        }
        if (n > 0 && w.money < n || n < 0 && w.stake < -n) {
            return -2;
        }
        if (n > 0 && w.stake + n > 9999 || n < 0 && w.money - n > 9999) {
            return -3;
        }
        w.money -= n;
        w.stake += n;
        return w.stake;
    }

    int gain(int v) {
        if (v < -5 || v > 5) {
            return NONE;
        }
        World was = w.copy();
        w.gain = v;
        return kept(was, 10 + was.gain);
    }

    int advance(int n) {
        World was = w.copy();
        int a = advanced(n);
        return a < 0 ? a : kept(was, a);
    }

    int advanced(int n) {
        if (n < 1 || n > 9999) {
            return NONE;
        }
        if (4 * n > w.book) {
            return -2;
        }
        w.book -= n;
        return w.book;
    }

    /** Whether a text can be the beginning of a spring, tried by the form of its acts. */
    static boolean opensSpring(String t) {
        return t.matches("(n\\d|c\\d|h\\d\\d|[sba][1-9])*([ncsba]|h\\d?)?");
    }

    static boolean isSpring(String t) {
        return t.matches("(n\\d|c\\d|h\\d\\d|[sba][1-9])*");
    }

    int spring() {
        String t = taken();
        for (int p = 0; p < t.length(); p++) {
            if (p == 60 || !opensSpring(t.substring(0, p + 1))) {
                return -1 - p;
            }
        }
        if (!isSpring(t)) {
            return -1 - t.length();
        }
        World was = w.copy();
        int done = 0;
        boolean failed = false;
        for (int p = 0; p < t.length() && !failed;) {
            int a = t.charAt(p + 1) - '0';
            int answer;
            switch (t.charAt(p)) {
                case 'n':
                    for (int i = 0; i < a; i++) {
                        night(w, rule);
                    }
                    answer = w.book;
                    break;
                case 'c':
                    answer = come(w, a);
                    break;
                case 'h':
                    answer = hummed(w, a, t.charAt(p + 2) - '0');
                    break;
                case 's':
                    answer = staked(a);
                    break;
                case 'b':
                    answer = staked(-a);
                    break;
                default:
                    answer = advanced(a);
            }
            p += t.charAt(p) == 'h' ? 3 : 2;
            failed = answer < 0;
            done += failed ? 0 : 1;
        }
        if (done > 0) {
            remember(was);
        }
        tell(failed ? 1 : 0, w.money);
        return done;
    }

    int undo() {
        if (undos.isEmpty()) {
            return NONE;
        }
        w = undos.remove(undos.size() - 1);
        return undos.size();
    }

    int tonight() {
        World at = w.copy();
        int[] parts = night(at, rule);
        int bits = 0;
        for (int i = 0; i < parts.length - 1; i++) {
            bits |= parts[i] > 0 ? 1 << i : 0;
        }
        tell(paid(w, parts), parts[parts.length - 1]);
        return bits;
    }

    World in(int n, String by) {
        World at = w.copy();
        for (int i = 0; i < n; i++) {
            night(at, by);
        }
        return at;
    }

    int later(int n) {
        if (n < 0 || n > 99) {
            return NONE;
        }
        World at = in(n, rule);
        tell(at.money, at.stake);
        return at.book;
    }

    int enough(int v) {
        if (v < 0 || v > 9999) {
            return NONE;
        }
        for (int n = 0; n <= 99; n++) {
            World at = in(n, rule);
            if (at.book >= v) {
                tell(at.money);
                return n;
            }
        }
        return -2;
    }

    int drains() {
        int best = -2;
        int most = Integer.MIN_VALUE;
        int all = count(7);
        for (int i : presentOnes(w)) {
            int more = leftOf(alone(w, all - (1 << i))) - leftOf(w);
            if (more > most) {
                most = more;
                best = i;
            }
        }
        if (best >= 0) {
            tell(most);
        }
        return best;
    }

    int leftOf(World at) {
        return parts(at, presentOnes(at), rule)[at.hearers.size()];
    }

    int paidOf(World at) {
        return paid(at, parts(at, presentOnes(at), rule));
    }

    int hears(int hearer, int v) {
        if (!has(hearer) || v < 0 || v > 99) {
            return NONE;
        }
        for (int n = 0; n <= 99; n++) {
            World at = in(n, rule);
            if (at.hearers.get(hearer).heard >= v) {
                tell(at.book);
                return n;
            }
        }
        return -2;
    }

    int quiet(int n) {
        if (n < 0 || n > 60) {
            return NONE;
        }
        StringBuilder heard = new StringBuilder();
        World at = w.copy();
        for (int i = 0; i < n; i++) {
            int worth = worthOn(at.night);
            int[] parts = night(at, rule);
            heard.append(parts[parts.length - 1] == worth ? 'q' : '.');
        }
        for (int many = n; many > 0; many--) {
            int from = heard.indexOf("q".repeat(many));
            if (from >= 0) {
                tell(from);
                return many;
            }
        }
        tell(-1);
        return 0;
    }

    int admits(int k) {
        if (k < 0 || k > 9) {
            return NONE;
        }
        int best = -2;
        for (int who = 0; who < 1 << w.hearers.size(); who++) {
            World at = alone(w, who);
            if (leftOf(at) >= k && paidOf(at) > best) {
                best = paidOf(at);
                tell(who, leftOf(at));
            }
        }
        return best;
    }

    int plans(int k) {
        if (k < 0 || k > 18) {
            return NONE;
        }
        int best = -2;
        for (int who = 0; who < 1 << w.hearers.size(); who++) {
            World tonight = alone(w, who);
            int left = leftOf(tonight);
            int paid = paidOf(tonight);
            night(tonight, rule);
            for (int next = 0; next < 1 << w.hearers.size(); next++) {
                World second = alone(tonight, next);
                int total = paid + paidOf(second);
                if (total > best && left + leftOf(second) >= k) {
                    best = total;
                    tell(who, next);
                }
            }
        }
        return best;
    }

    int fills() {
        for (int many = 0; many <= w.hearers.size(); many++) {
            for (int who = 0; who < 1 << w.hearers.size(); who++) {
                if (Integer.bitCount(who) == many && leftOf(alone(w, who)) == 0) {
                    tell(who);
                    return many;
                }
            }
        }
        return -2;
    }

    private int bestOrderPaid;
    private List<Integer> bestOrder;

    int order() {
        bestOrderPaid = -1;
        orders(new ArrayList<>(), presentOnes(w));
        row.clear();
        for (int i : bestOrder) {
            row.add((long) i);
        }
        return bestOrderPaid;
    }

    void orders(List<Integer> begun, List<Integer> rest) {
        if (rest.isEmpty()) {
            int paid = paid(w, parts(w, begun, rule));
            if (paid > bestOrderPaid) {
                bestOrderPaid = paid;
                bestOrder = new ArrayList<>(begun);
            }
        }
        for (int i = 0; i < rest.size(); i++) {
            List<Integer> more = new ArrayList<>(begun);
            List<Integer> fewer = new ArrayList<>(rest);
            more.add(fewer.remove(i));
            orders(more, fewer);
        }
    }

    int raises(int v) {
        if (v < 0 || v > 9999) {
            return NONE;
        }
        if (w.money >= v) {
            tell(-1);
            return 0;
        }
        for (int much = 1; much <= w.book; much++) {
            for (int i = 0; i < w.hearers.size(); i++) {
                if (w.money + 2 * w.hearers.get(i).pay * much >= v) {
                    tell(i);
                    return much;
                }
            }
        }
        return -2;
    }

    int grows(int s, int n) {
        if (s < 0 || s > 9999 || n < 0 || n > 30) {
            return NONE;
        }
        int changed = 0;
        for (int i = 0; i < n; i++) {
            int was = s;
            s = week(s, w.gain);
            changed += s == was ? 0 : 1;
        }
        tell(changed);
        return s;
    }

    int heardBy(int who) {
        int sum = 0;
        for (int i = 0; i < w.hearers.size(); i++) {
            sum += (who >> i & 1) * w.hearers.get(i).heard;
        }
        return sum;
    }

    int adds(int v) {
        if (v < 0 || v > 999) {
            return NONE;
        }
        for (int many = 0; many <= w.hearers.size(); many++) {
            for (int who = 0; who < 1 << w.hearers.size(); who++) {
                if (Integer.bitCount(who) == many && heardBy(who) == v) {
                    tell(who);
                    return many;
                }
            }
        }
        return -2;
    }

    int nearest(int v) {
        if (v < 0 || v > 999) {
            return NONE;
        }
        for (int gap = 0; ; gap++) {
            for (int sum : new int[] {v - gap, v + gap}) {
                for (int many = 0; many <= w.hearers.size(); many++) {
                    for (int who = 0; who < 1 << w.hearers.size(); who++) {
                        if (Integer.bitCount(who) == many && heardBy(who) == sum) {
                            tell(who);
                            return sum;
                        }
                    }
                }
            }
        }
    }

    int awards(int v) {
        if (v < 0 || v > 999) {
            return NONE;
        }
        long[] has = new long[w.hearers.size() + 1];
        has[w.hearers.size()] = v;
        while (has[w.hearers.size()] > 0) {
            int who = -1;
            for (int few = 0; few < 99 && who < 0; few++) {
                for (int i = 0; i < w.hearers.size() && who < 0; i++) {
                    who = has[i] == few && has[i] < w.hearers.get(i).heard ? i : -1;
                }
            }
            if (who < 0) {
                break;
            }
            has[who]++;
            has[w.hearers.size()]--;
        }
        tell(has);
        return w.hearers.isEmpty() ? 0 : (int) has[0];
    }

    int envy() {
        for (int gap = 99; gap >= 0; gap--) {
            for (int i = 0; i < w.hearers.size(); i++) {
                for (int j = i + 1; j < w.hearers.size(); j++) {
                    if (Math.abs(w.hearers.get(i).heard - w.hearers.get(j).heard) == gap) {
                        tell(i, j);
                        return gap;
                    }
                }
            }
        }
        return -2;
    }

    void tellFraction(BigInteger upper, int n, long... more) {
        BigInteger lower = BigInteger.TEN.pow(n);
        BigInteger common = upper.gcd(lower);
        long[] all = new long[2 + more.length];
        all[0] = upper.divide(common).longValueExact();
        all[1] = lower.divide(common).longValueExact();
        System.arraycopy(more, 0, all, 2, more.length);
        tell(all);
    }

    private BigInteger[][] boldKnown;

    int bold(int m, int g, int n, int p) {
        if (m < 0 || m > 20 || g < 1 || g > 20 || n < 0 || n > 8 || p < 0 || p > 10) {
            return NONE;
        }
        boldKnown = new BigInteger[9][21];
        BigInteger best = boldest(m, g, n, p);
        int stake = -1;
        for (int s = m; s >= 0 && n > 0; s--) {
            if (by(s, m, g, n, p).equals(best)) {
                stake = s;
            }
        }
        tellFraction(best, n, stake);
        return 0;
    }

    BigInteger boldest(int m, int g, int n, int p) {
        if (n == 0) {
            return m >= g ? BigInteger.ONE : BigInteger.ZERO;
        }
        if (boldKnown[n][m] == null) {
            BigInteger best = BigInteger.ZERO;
            for (int s = 0; s <= m; s++) {
                best = best.max(by(s, m, g, n, p));
            }
            boldKnown[n][m] = best;
        }
        return boldKnown[n][m];
    }

    BigInteger by(int s, int m, int g, int n, int p) {
        BigInteger won = boldest(Math.min(20, m + s), g, n - 1, p).multiply(BigInteger.valueOf(p));
        return won.add(boldest(m - s, g, n - 1, p).multiply(BigInteger.valueOf(10 - p)));
    }

    private int[][] notesKnown;

    int notes(int n, int k, int l) {
        if (n < 0 || n > 60 || k < 1 || k > 9 || l < 0 || l > 9) {
            return NONE;
        }
        notesKnown = new int[61][10];
        for (int[] known : notesKnown) {
            Arrays.fill(known, -1);
        }
        return winning(n, k, l);
    }

    int winning(int n, int k, int l) {
        if (notesKnown[n][l] < 0) {
            int found = 0;
            for (int t = Math.min(n, k); t >= 1; t--) {
                if (t != l && winning(n - t, k, t) == 0) {
                    found = t;
                }
            }
            notesKnown[n][l] = found;
        }
        return notesKnown[n][l];
    }

    int look(int v, int is) {
        if (v < 0 || v > 9 || is < 0 || is > 1 || looks.size() == 12) {
            return NONE;
        }
        looks.add(new int[] {v, is});
        return looks.size();
    }

    int forget() {
        int were = looks.size();
        looks.clear();
        return were;
    }

    List<int[]> fittingLaws() {
        List<int[]> fitting = new ArrayList<>();
        for (int m = 1; m <= 6; m++) {
            for (int r = 0; r < m; r++) {
                boolean fit = true;
                for (int[] look : looks) {
                    fit &= (look[0] % m == r) == (look[1] == 1);
                }
                if (fit) {
                    fitting.add(new int[] {m, r});
                }
            }
        }
        return fitting;
    }

    int laws() {
        List<int[]> fitting = fittingLaws();
        tell();
        if (!fitting.isEmpty()) {
            tell(fitting.get(0)[0], fitting.get(0)[1]);
        }
        return fitting.size();
    }

    int sure() {
        int all = 1023;
        int none = 1023;
        for (int[] law : fittingLaws()) {
            for (int v = 0; v < 10; v++) {
                if (v % law[0] == law[1]) {
                    none &= ~(1 << v);
                } else {
                    all &= ~(1 << v);
                }
            }
        }
        boolean some = !fittingLaws().isEmpty();
        tell(some ? none : 0);
        return some ? all : 0;
    }

    int tries() {
        List<int[]> fitting = fittingLaws();
        for (int most = 1; most <= 21; most++) {
            for (int v = 0; v < 10; v++) {
                int like = 0;
                for (int[] law : fitting) {
                    like += v % law[0] == law[1] ? 1 : 0;
                }
                if (!fitting.isEmpty() && like <= most && fitting.size() - like <= most) {
                    tell(most);
                    return v;
                }
            }
        }
        return -2;
    }

    /** All ways in which the next n NIGHTS can go, one by one. */
    BigInteger had(int n, int v, int p) {
        BigInteger sum = BigInteger.ZERO;
        for (int way = 0; way < 1 << n; way++) {
            int worths = 0;
            BigInteger chance = BigInteger.ONE;
            for (int i = 0; i < n; i++) {
                boolean sung = (way >> i & 1) == 1;
                worths += sung ? worthOn(w.night + i) : 0;
                chance = chance.multiply(BigInteger.valueOf(sung ? p : 10 - p));
            }
            if (worths >= v) {
                sum = sum.add(chance);
            }
        }
        return sum;
    }

    int sings(int n, int v, int p) {
        if (n < 1 || n > 10 || v < 0 || v > 99 || p < 0 || p > 10) {
            return NONE;
        }
        tellFraction(had(n, v, p), n);
        return 0;
    }

    int counts(int n, int q, int p) {
        if (n < 1 || n > 10 || q < 0 || q > 100 || p < 0 || p > 10) {
            return NONE;
        }
        int v = 90;
        BigInteger needed = BigInteger.TEN.pow(n).multiply(BigInteger.valueOf(q));
        while (had(n, v, p).multiply(BigInteger.valueOf(100)).compareTo(needed) < 0) {
            v--;
        }
        return v;
    }

    int told(int what, int v) {
        int[] least = {0, 1, 0, 0, 0};
        int[] most = {3, 9, 99, 1, 9};
        if (what < 0 || what > 4 || v < least[what] || v > most[what] || said.size() == 12) {
            return NONE;
        }
        said.add(new int[] {what, v});
        return said.size();
    }

    int deny() {
        int were = said.size();
        said.clear();
        return were;
    }

    List<Integer> fitting() {
        List<Integer> list = new ArrayList<>();
        for (int i = 0; i < w.hearers.size(); i++) {
            Hearer h = w.hearers.get(i);
            boolean fit = true;
            for (int[] s : said) {
                boolean[] so = {h.sort == s[1], h.want >= s[1], h.heard <= s[1],
                    Math.min(1, h.surcharged) == s[1], h.pay == s[1]};
                fit &= so[s[0]];
            }
            if (fit) {
                list.add(i);
            }
        }
        return list;
    }

    int fits() {
        int bits = 0;
        for (int i : fitting()) {
            bits |= 1 << i;
        }
        tell(fitting().size());
        return bits;
    }

    int ask() {
        List<Integer> list = fitting();
        if (list.isEmpty()) {
            return -2;
        }
        for (int most = 0; ; most++) {
            for (int v = 0; v < 10; v++) {
                int below = 0;
                for (int i : list) {
                    below += w.hearers.get(i).pay <= v ? 1 : 0;
                }
                if (below <= most && list.size() - below <= most) {
                    tell(most);
                    return v;
                }
            }
        }
    }

    int rests(int v, int a, int b) {
        if (v < 0 || v > 20 || a < 0 || a > 5 || b < 0 || b > 5) {
            return NONE;
        }
        int[][] one = new int[10][10];
        int[][] other = new int[10][10];
        for (int x = 0; x < 10; x++) {
            for (int y = 0; y < 10; y++) {
                one[x][y] = (x + y < 9 ? v / 2 : v) - a * x;
                other[x][y] = (x + y < 9 ? v / 2 : v) - b * y;
            }
        }
        int many = 0;
        tell();
        for (int x = 9; x >= 0; x--) {
            for (int y = 9; y >= 0; y--) {
                boolean rest = true;
                for (int z = 0; z < 10; z++) {
                    rest &= one[z][y] <= one[x][y] && other[x][z] <= other[x][y];
                }
                if (rest) {
                    many++;
                    tell(x, y);
                }
            }
        }
        return many;
    }

    int law() {
        String t = taken();
        int fault = ruleFault(t);
        if (fault >= 0) {
            return -10000 - fault;
        }
        int it = in(20, t).book;
        int ours = in(20, rule).book;
        tell(it, ours);
        return it - ours;
    }

    private int r;

    int draw(int n) {
        r = r * 1103515245 + 12345;
        return (int) ((r & 0xffffffffL) / 65536 % n);
    }

    int years(int seed, int n) {
        if (n < 1 || n > 60) {
            return NONE;
        }
        World at = w.copy();
        r = seed;
        for (int i = 0; i < n; i++) {
            int d = draw(4);
            if (d <= 1) {
                night(at, rule);
            } else if (at.hearers.isEmpty()) {
                continue;
            } else if (d == 2) {
                come(at, draw(at.hearers.size()));
            } else {
                int who = draw(at.hearers.size());
                hummed(at, who, draw(9) + 1);
            }
        }
        int heard = 0;
        for (Hearer h : at.hearers) {
            heard += h.heard;
        }
        tell(at.money, heard);
        return at.book;
    }

    boolean keep(int i) {
        if (i != 0 && i != 1) {
            return false;
        }
        kept[i] = w.copy();
        return true;
    }

    boolean again(int i) {
        if (i != 0 && i != 1 || kept[i] == null) {
            return false;
        }
        w = kept[i].copy();
        undos.clear();
        return true;
    }

    int count(int what) {
        int present = 0;
        int heard = 0;
        int surcharged = 0;
        for (int i = 0; i < w.hearers.size(); i++) {
            Hearer h = w.hearers.get(i);
            present |= h.present ? 1 << i : 0;
            heard += h.heard;
            surcharged += h.surcharged;
        }
        int[] all = {songs.length(), w.hearers.size(), w.night, w.book, w.money, w.stake, 10 + w.gain,
            present, heard, surcharged, looks.size(), said.size(), undos.size(), row.size(), text.length()};
        return what < 0 || what >= all.length ? NONE : all[what];
    }

    long row(int i) {
        if (i < 0 || i >= row.size()) {
            throw new NoSuchElementException();
        }
        return row.get(i);
    }
}
