import java.util.NoSuchElementException;

/**
 * A nightingale held in trust for a ward: its songs, those who hear them and what is kept of them.
 *
 * <p>Everything that a call needs is made once with the object, so that calls make nothing: a long
 * run of calls stays small.
 */
public final class HeldInTrust {
    public static final int NONE = -1;

    /** The answer of a question that nothing meets, and of an act for which there is not enough. */
    private static final int BY_NONE = -2;
    private static final int BEYOND = -3;
    private static final int MISSING = -3;

    /** A text without a fault; faults are told by their place, 0 and more. */
    private static final int FINE = -1;

    private static final int MOST_SIGNS = 80;
    private static final int MOST_SONGS = 16;
    private static final int MOST_LINE_SIGNS = 31;
    private static final int MOST_RULE_SIGNS = 40;
    private static final int MOST_SPRING_SIGNS = 60;
    private static final int LAW_FAULT = -10000;

    private static final int MOST_HEARERS = 8;
    private static final int MOST_WANT = 9;
    private static final int MOST_WORTH = 9;
    private static final int MOST_PAY = 9;
    private static final int MOST_HEARD = 99;
    private static final int MOST_COINS = 9999;
    private static final int MOST_GAIN = 5;
    private static final int MOST_HUM = 9;
    private static final int WEEK = 7;

    private static final int MOST_NIGHTS = 60;
    private static final int MOST_AHEAD = 99;
    private static final int LAW_NIGHTS = 20;
    private static final int MOST_WEEKS = 30;
    private static final int MOST_SUM = 999;

    private static final int MOST_UNDONE = 12;
    private static final int MOST_KEPT = 2;
    private static final int MOST_SAID = 12;

    private static final int MOST_PURSE = 20;
    private static final int MOST_THROWS = 8;
    private static final int MOST_NOTES = 60;
    private static final int MOST_TAKEN = 9;
    private static final int ALL_TAKEN = 1023;
    private static final int MOST_MODULUS = 6;
    private static final int MOST_CHANCES = 10;
    private static final int MOST_SUNG = 90;
    private static final int MOST_HOURS = 9;

    private static final String SORTS = "olcw";

    private final Text text = new Text();
    private final Row roll = new Row();
    private final Square square = new Square();
    private final Estate now = new Estate();
    private final Estate before = new Estate();
    private final Estate ahead = new Estate();
    private final Past past = new Past();
    private final Estate[] kept = new Estate[MOST_KEPT];
    private final int[] keptHearers = new int[MOST_KEPT];
    private final Said looks = new Said();
    private final Said hearsay = new Said();
    private final Parting first = new Parting(0);
    private final Parting second = new Parting(MOST_WORTH);
    private final int[] shares = new int[MOST_HEARERS];
    private final long[] chances = new long[MOST_SUNG + 1];
    private final long[] purse = new long[MOST_PURSE + 1];
    private final long[] nextPurse = new long[MOST_PURSE + 1];
    private final int[] lost = new int[MOST_NOTES + 1];
    private Rule spare = new Rule();
    private int drawn;

    public HeldInTrust() {
        for (int i = 0; i < MOST_KEPT; i++) {
            kept[i] = new Estate();
            keptHearers[i] = NONE;
        }
    }

    // ---- songs, hearers

    public int sign(int v) {
        return text.add(v) ? text.size : NONE;
    }

    public boolean end(int n) {
        if (n < 0 || n > text.size) {
            return false;
        }
        text.size = n;
        return true;
    }

    public int songs() {
        int fault = faultInSongs();
        int answer = -1 - fault;
        if (fault == FINE) {
            answer = text.size;
            square.learn(text);
        }
        text.size = 0;
        return answer;
    }

    private int faultInSongs() {
        for (int p = 0; p < text.size; p++) {
            if (p >= MOST_SONGS || text.digit(p) < 0) {
                return p;
            }
        }
        return text.size == 0 ? 0 : FINE;
    }

    public int hearers() {
        int fault = faultInLines();
        int answer = -1 - fault;
        if (fault == FINE) {
            answer = (text.size + 1) / 4;
            for (int line = 0; line < answer; line++) {
                admit(4 * line);
            }
        }
        if (answer > 0) {
            past.size = 0;
        }
        text.size = 0;
        return answer;
    }

    /** A LINE with the ; behind it has four signs: a place by 4 tells what may stand there. */
    private int faultInLines() {
        int length = Math.min(text.size, MOST_LINE_SIGNS);
        int room = MOST_HEARERS - square.size;
        for (int p = 0; p < length; p++) {
            if (!fitsInLine(p) || p / 4 >= room) {
                return p;
            }
        }
        if (length > 0 && length % 4 != 3) {
            return length;
        }
        return text.size > MOST_LINE_SIGNS ? MOST_LINE_SIGNS : FINE;
    }

    private boolean fitsInLine(int p) {
        switch (p % 4) {
            case 0:
                return SORTS.indexOf((char) text.at(p)) >= 0;
            case 1:
                return text.digit(p) > 0;
            case 2:
                return text.digit(p) >= 0;
            default:
                return text.at(p) == ';';
        }
    }

    private void admit(int p) {
        int hearer = square.size;
        if (hearer < 0 || hearer >= MOST_HEARERS) {
            return;
        }
        square.sort[hearer] = SORTS.indexOf((char) text.at(p));
        square.want[hearer] = text.digit(p + 1);
        square.pay[hearer] = text.digit(p + 2);
        square.size = hearer + 1;
        now.heard[hearer] = 0;
        now.surcharged[hearer] = 0;
        now.present |= 1 << hearer;
    }

    public int rule() {
        int fault = spare.read(text);
        text.size = 0;
        if (fault != FINE) {
            return -1 - fault;
        }
        Rule old = square.rule;
        square.rule = spare;
        spare = old;
        return 0;
    }

    public int hearer(int hearer, int what) throws NoSuchElementException {
        if (!square.has(hearer) || what < 0 || what > 6) {
            throw new NoSuchElementException();
        }
        switch (what) {
            case 0:
                return square.sort[hearer];
            case 1:
                return square.want[hearer];
            case 2:
                return square.pay[hearer];
            case 3:
                return now.heard[hearer];
            case 4:
                return now.surcharged[hearer];
            case 5:
                return now.present >> hearer & 1;
            default:
                return mayTonight(hearer);
        }
    }

    private int mayTonight(int hearer) {
        return square.may(square.rule, now.night, hearer, now.heard[hearer], Integer.bitCount(now.present));
    }

    public int worth(int n) {
        return n < 0 || n > MOST_AHEAD ? NONE : square.songOn(now.night + n);
    }

    public int sheet(int kind, int n, int f, int step) {
        if (kind < 0 || kind > 3 || n > MOST_HEARERS) {
            return NONE;
        }
        if (kind < 3 && n < 0) {
            return BY_NONE;
        }
        int entries = kind == 3 ? 0 : n;
        for (int i = 0; i < square.size; i++) {
            now.heard[i] = i < entries ? put(entry(kind, f + i * step), 0, MOST_HEARD) : 0;
        }
        return kind == 3 ? MISSING : now.heardOfAll(square.size);
    }

    private static int entry(int kind, int v) {
        if (kind == 0) {
            return (byte) v;
        }
        return kind == 1 ? (short) v : v;
    }

    private static int put(int v, int least, int most) {
        return Math.max(least, Math.min(most, v));
    }

    // ---- nights

    public int nights(int n) {
        before.copy(now);
        int answer = goOn(now, n);
        if (answer < 0) {
            return NONE;
        }
        if (n > 0) {
            past.push(before);
        }
        roll.tell(now.money - before.money, now.stake);
        return answer;
    }

    public int comes(int hearer) {
        before.copy(now);
        return remembered(turn(now, hearer));
    }

    public int hum(int hearer, int n) {
        before.copy(now);
        return remembered(surcharge(now, hearer, n));
    }

    public int stake(int n) {
        before.copy(now);
        return remembered(wager(now, n));
    }

    public int gain(int v) {
        if (v < -MOST_GAIN || v > MOST_GAIN) {
            return NONE;
        }
        before.copy(now);
        now.gain = v;
        return remembered(10 + before.gain);
    }

    public int advance(int n) {
        before.copy(now);
        return remembered(handOver(now, n));
    }

    /** An act that was refused left everything as it was, so that there is nothing to undo. */
    private int remembered(int answer) {
        if (answer >= 0) {
            past.push(before);
        }
        return answer;
    }

    private int goOn(Estate estate, int n) {
        if (n < 0 || n > MOST_NIGHTS) {
            return NONE;
        }
        for (int i = 0; i < n; i++) {
            square.pass(estate, square.rule);
        }
        return estate.book;
    }

    private int turn(Estate estate, int hearer) {
        if (!square.has(hearer)) {
            return NONE;
        }
        estate.present ^= 1 << hearer;
        return Integer.bitCount(estate.present);
    }

    private int surcharge(Estate estate, int hearer, int n) {
        if (!square.has(hearer) || n < 1 || n > MOST_HUM) {
            return NONE;
        }
        if (n > estate.book) {
            return BY_NONE;
        }
        estate.book -= n;
        estate.hear(hearer, n);
        estate.surcharged[hearer] = Math.min(MOST_HEARD, estate.surcharged[hearer] + 1);
        estate.earn(2 * square.pay[hearer] * n);
        return estate.money;
    }

    private int wager(Estate estate, int n) {
        if (n == 0 || n < -MOST_COINS || n > MOST_COINS) {
            return NONE;
        }
        int stake = estate.stake + n;
        int money = estate.money - n;
        if (stake < 0 || money < 0) {
            return BY_NONE;
        }
        if (stake > MOST_COINS || money > MOST_COINS) {
            return BEYOND;
        }
        estate.stake = stake;
        estate.money = money;
        return stake;
    }

    private int handOver(Estate estate, int n) {
        if (n < 1 || n > MOST_COINS) {
            return NONE;
        }
        if (n > estate.book / 4) {
            return BY_NONE;
        }
        estate.book -= n;
        return estate.book;
    }

    public int spring() {
        int fault = faultInSpring();
        if (fault != FINE) {
            text.size = 0;
            return -1 - fault;
        }
        before.copy(now);
        int done = 0;
        int p = 0;
        boolean stopped = false;
        for (int i = 0; i < MOST_SPRING_SIGNS && p < text.size && !stopped; i++) {
            if (act(p) < 0) {
                stopped = true;
            } else {
                done++;
            }
            p += 1 + digitsBehind(text.at(p));
        }
        if (done > 0) {
            past.push(before);
        }
        text.size = 0;
        roll.tell(stopped ? 1 : 0, now.money);
        return done;
    }

    private int faultInSpring() {
        int length = Math.min(text.size, MOST_SPRING_SIGNS);
        int owed = 0;
        int least = 0;
        for (int p = 0; p < length; p++) {
            if (owed > 0) {
                if (text.digit(p) < least) {
                    return p;
                }
                owed--;
            } else {
                owed = digitsBehind(text.at(p));
                if (owed == 0) {
                    return p;
                }
                least = leastBehind(text.at(p));
            }
        }
        if (owed > 0) {
            return length;
        }
        return text.size > MOST_SPRING_SIGNS ? MOST_SPRING_SIGNS : FINE;
    }

    private static int digitsBehind(int letter) {
        switch (letter) {
            case 'h':
                return 2;
            case 'n':
            case 'c':
            case 's':
            case 'b':
            case 'a':
                return 1;
            default:
                return 0;
        }
    }

    private static int leastBehind(int letter) {
        return letter == 's' || letter == 'b' || letter == 'a' ? 1 : 0;
    }

    private int act(int p) {
        int digit = text.digit(p + 1);
        switch (text.at(p)) {
            case 'n':
                return goOn(now, digit);
            case 'c':
                return turn(now, digit);
            case 'h':
                return surcharge(now, digit, text.digit(p + 2));
            case 's':
                return wager(now, digit);
            case 'b':
                return wager(now, -digit);
            case 'a':
                return handOver(now, digit);
            default:
                return NONE;
        }
    }

    public int undo() {
        return past.pop(now) ? past.size : NONE;
    }

    // ---- tonight, later

    public int tonight() {
        square.part(now, now.present, square.rule);
        roll.tell(square.paid, square.left);
        return square.having;
    }

    public int later(int n) {
        if (n < 0 || n > MOST_AHEAD) {
            return NONE;
        }
        int book = bookIn(n, square.rule);
        roll.tell(ahead.money, ahead.stake);
        return book;
    }

    private int bookIn(int n, Rule by) {
        ahead.copy(now);
        for (int i = 0; i < n; i++) {
            square.pass(ahead, by);
        }
        return ahead.book;
    }

    public int enough(int v) {
        if (v < 0 || v > MOST_COINS) {
            return NONE;
        }
        ahead.copy(now);
        for (int night = 0; night <= MOST_AHEAD; night++) {
            if (ahead.book >= v) {
                roll.tell(ahead.money);
                return night;
            }
            square.pass(ahead, square.rule);
        }
        return BY_NONE;
    }

    public int drains() {
        square.part(now, now.present, square.rule);
        int left = square.left;
        int who = BY_NONE;
        int most = 0;
        for (int i = 0; i < square.size; i++) {
            if ((now.present >> i & 1) != 0) {
                square.part(now, now.present & ~(1 << i), square.rule);
                // with some rules less is left without a HEARER: then the most is below 0
                if (who < 0 || square.left - left > most) {
                    who = i;
                    most = square.left - left;
                }
            }
        }
        if (who >= 0) {
            roll.tell(most);
        }
        return who;
    }

    public int hears(int hearer, int v) {
        if (!square.has(hearer) || v < 0 || v > MOST_HEARD) {
            return NONE;
        }
        ahead.copy(now);
        for (int night = 0; night <= MOST_AHEAD; night++) {
            if (ahead.heard[hearer] >= v) {
                roll.tell(ahead.book);
                return night;
            }
            square.pass(ahead, square.rule);
        }
        return BY_NONE;
    }

    public int quiet(int n) {
        if (n < 0 || n > MOST_NIGHTS) {
            return NONE;
        }
        ahead.copy(now);
        int most = 0;
        int start = -1;
        int run = 0;
        for (int night = 0; night < n; night++) {
            square.pass(ahead, square.rule);
            run = square.having == 0 ? run + 1 : 0;
            if (run > most) {
                most = run;
                start = night - run + 1;
            }
        }
        roll.tell(start);
        return most;
    }

    // ---- whom to admit

    public int admits(int k) {
        if (k < 0 || k > MOST_WORTH) {
            return NONE;
        }
        first.ready(square, now, now.night, 0);
        int best = BY_NONE;
        for (int who = 0; who < 1 << square.size; who++) {
            first.share(square, who);
            if (first.left >= k && first.paid > best) {
                best = first.paid;
                roll.tell(who, first.left);
            }
        }
        return best;
    }

    public int plans(int k) {
        if (k < 0 || k > 2 * MOST_WORTH) {
            return NONE;
        }
        first.ready(square, now, now.night, 0);
        second.ready(square, now, now.night + 1, first.worth);
        for (int i = 0; i < square.size; i++) {
            shares[i] = second.mostOf(i, square.size, first.worth);
        }
        int everybody = (1 << square.size) - 1;
        int best = BY_NONE;
        for (int who = 0; who < 1 << square.size; who++) {
            first.share(square, who);
            int open = second.worth - Math.max(0, k - first.left);
            // there are 65536 pairs: those of a first night that can't become better are left out
            if (open >= 0 && first.paid + mostPaid(everybody, open) > best) {
                best = bestSecond(who, k, best);
            }
        }
        return best;
    }

    private int bestSecond(int who, int k, int best) {
        second.follow(square, first);
        int found = best;
        for (int next = 0; next < 1 << square.size; next++) {
            second.share(square, next);
            if (first.left + second.left >= k && first.paid + second.paid > found) {
                found = first.paid + second.paid;
                roll.tell(who, next);
            }
        }
        return found;
    }

    public int fills() {
        first.ready(square, now, now.night, 0);
        int fewest = BY_NONE;
        for (int who = 0; who < 1 << square.size; who++) {
            int many = Integer.bitCount(who);
            if (fewest < 0 || many < fewest) {
                first.share(square, who);
                if (first.left == 0) {
                    fewest = many;
                    roll.tell(who);
                }
            }
        }
        return fewest;
    }

    public int order() {
        for (int i = 0; i < square.size; i++) {
            shares[i] = mayTonight(i);
        }
        int waiting = now.present;
        int left = square.songOn(now.night);
        int most = mostPaid(waiting, left);
        int open = most;
        roll.clear();
        for (int place = Integer.bitCount(waiting); place > 0; place--) {
            int next = firstToGo(waiting, left, open);
            if (!square.has(next)) {
                break;
            }
            int share = Math.min(left, shares[next]);
            left -= share;
            open -= share * square.pay[next];
            waiting &= ~(1 << next);
            roll.add(next);
        }
        return most;
    }

    /** The least of those who wait behind whom all that is still to be paid can be paid. */
    private int firstToGo(int waiting, int left, int open) {
        for (int i = 0; i < square.size; i++) {
            if ((waiting >> i & 1) != 0) {
                int share = Math.min(left, shares[i]);
                if (share * square.pay[i] + mostPaid(waiting & ~(1 << i), left - share) == open) {
                    return i;
                }
            }
        }
        return NONE;
    }

    /** Those who pay the most first: no order brings more of so much, each having its share at most. */
    private int mostPaid(int who, int worth) {
        int left = worth;
        int paid = 0;
        for (int pay = MOST_PAY; pay > 0; pay--) {
            for (int i = 0; i < square.size; i++) {
                if ((who >> i & 1) != 0 && square.pay[i] == pay) {
                    int share = Math.min(left, shares[i]);
                    left -= share;
                    paid += share * pay;
                }
            }
        }
        return paid;
    }

    public int raises(int v) {
        if (v < 0 || v > MOST_COINS) {
            return NONE;
        }
        int lacking = v - now.money;
        if (lacking <= 0) {
            roll.tell(-1);
            return 0;
        }
        int least = BY_NONE;
        for (int i = 0; i < square.size; i++) {
            int each = 2 * square.pay[i];
            int hummed = each > 0 ? (lacking + each - 1) / each : MOST_COINS + 1;
            if (hummed <= now.book && (least < 0 || hummed < least)) {
                least = hummed;
                roll.tell(i);
            }
        }
        return least;
    }

    public int grows(int s, int n) {
        if (s < 0 || s > MOST_COINS || n < 0 || n > MOST_WEEKS) {
            return NONE;
        }
        int coins = s;
        int changes = 0;
        for (int week = 0; week < n; week++) {
            int next = grown(coins, now.gain);
            if (next != coins) {
                changes++;
            }
            coins = next;
        }
        roll.tell(changes);
        return coins;
    }

    private static int grown(int coins, int gain) {
        return put(coins + coins * gain / 10, 0, MOST_COINS);
    }

    // ---- accounts

    public int adds(int v) {
        if (v < 0 || v > MOST_SUM) {
            return NONE;
        }
        int fewest = BY_NONE;
        for (int who = 0; who < 1 << square.size; who++) {
            int many = Integer.bitCount(who);
            if (heardBy(who) == v && (fewest < 0 || many < fewest)) {
                fewest = many;
                roll.tell(who);
            }
        }
        return fewest;
    }

    private int heardBy(int who) {
        int sum = 0;
        for (int i = 0; i < square.size; i++) {
            if ((who >> i & 1) != 0) {
                sum += now.heard[i];
            }
        }
        return sum;
    }

    public int nearest(int v) {
        if (v < 0 || v > MOST_SUM) {
            return NONE;
        }
        int best = 0;
        int closest = 0;
        for (int who = 1; who < 1 << square.size; who++) {
            int sum = heardBy(who);
            boolean fewer = sum == closest && Integer.bitCount(who) < Integer.bitCount(best);
            if (fewer || closer(sum, closest, v)) {
                best = who;
                closest = sum;
            }
        }
        roll.tell(best);
        return closest;
    }

    private static boolean closer(int sum, int other, int v) {
        int gap = Math.abs(sum - v);
        int otherGap = Math.abs(other - v);
        return gap < otherGap || gap == otherGap && sum < other;
    }

    public int awards(int v) {
        if (v < 0 || v > MOST_SUM) {
            return NONE;
        }
        for (int i = 0; i < MOST_HEARERS; i++) {
            shares[i] = 0;
        }
        int left = v;
        for (int coin = 0; coin < v; coin++) {
            int next = poorest();
            if (!square.has(next)) {
                break;
            }
            shares[next]++;
            left--;
        }
        roll.clear();
        for (int i = 0; i < square.size; i++) {
            roll.add(shares[i]);
        }
        roll.add(left);
        return shares[0];
    }

    private int poorest() {
        int next = NONE;
        for (int i = 0; i < square.size; i++) {
            if (shares[i] < now.heard[i] && (next < 0 || shares[i] < shares[next])) {
                next = i;
            }
        }
        return next;
    }

    public int envy() {
        int most = BY_NONE;
        for (int i = 0; i < square.size; i++) {
            for (int j = i + 1; j < square.size; j++) {
                int gap = Math.abs(now.heard[i] - now.heard[j]);
                if (gap > most) {
                    most = gap;
                    roll.tell(i, j);
                }
            }
        }
        return most;
    }

    // ---- stakes, notes

    public int bold(int m, int g, int n, int p) {
        boolean known = m >= 0 && m <= MOST_PURSE && g >= 1 && g <= MOST_PURSE
            && n >= 0 && n <= MOST_THROWS && p >= 0 && p <= 10;
        if (!known) {
            return NONE;
        }
        for (int coins = 0; coins <= MOST_PURSE; coins++) {
            purse[coins] = coins >= g ? 1 : 0;
        }
        for (int left = 1; left < n; left++) {
            for (int coins = 0; coins <= MOST_PURSE; coins++) {
                nextPurse[coins] = chanceBy(bestStake(coins, p), coins, p);
            }
            System.arraycopy(nextPurse, 0, purse, 0, MOST_PURSE + 1);
        }
        int stake = n == 0 ? NONE : bestStake(m, p);
        long chance = n == 0 ? purse[m] : chanceBy(stake, m, p);
        roll.clear();
        tellFraction(chance, tenToThe(n));
        roll.add(stake);
        return 0;
    }

    private int bestStake(int coins, int p) {
        int best = 0;
        for (int s = 1; s <= coins; s++) {
            if (chanceBy(s, coins, p) > chanceBy(best, coins, p)) {
                best = s;
            }
        }
        return best;
    }

    /** In so many parts of the next power of ten. */
    private long chanceBy(int s, int coins, int p) {
        int won = put(coins + s, 0, MOST_PURSE);
        int lostOnes = put(coins - s, 0, MOST_PURSE);
        return purse[won] * p + purse[lostOnes] * (10 - p);
    }

    private static long tenToThe(int n) {
        long power = 1;
        for (int i = 0; i < n; i++) {
            power *= 10;
        }
        return power;
    }

    private void tellFraction(long upper, long lower) {
        long a = upper;
        long b = lower;
        // Euclid's steps at least halve a number every two: 128 are enough for any long
        for (int i = 0; i < 128 && b != 0; i++) {
            long rest = a % b;
            a = b;
            b = rest;
        }
        long common = a > 0 ? a : 1;
        roll.add(upper / common);
        roll.add(lower / common);
    }

    public int notes(int n, int k, int l) {
        if (n < 0 || n > MOST_NOTES || k < 1 || k > MOST_TAKEN || l < 0 || l > MOST_TAKEN) {
            return NONE;
        }
        for (int left = 0; left < n; left++) {
            lost[left] = lostBehind(winners(left, k));
        }
        int open = winners(n, k) & ~(1 << l);
        for (int t = 1; t <= k; t++) {
            if ((open >> t & 1) != 0) {
                return t;
            }
        }
        return 0;
    }

    /** The numbers (bits) that win if they may be taken: those behind which the other one is lost. */
    private int winners(int left, int k) {
        int found = 0;
        for (int t = 1; t <= k && t <= left; t++) {
            if ((lost[left - t] >> t & 1) != 0) {
                found |= 1 << t;
            }
        }
        return found;
    }

    /** The numbers (bits) that, taken just now, leave nothing that wins. */
    private static int lostBehind(int winners) {
        if (winners == 0) {
            return ALL_TAKEN;
        }
        return Integer.bitCount(winners) == 1 ? winners : 0;
    }

    // ---- what the ward likes

    public int look(int v, int is) {
        if (v < 0 || v > MOST_WORTH || is < 0 || is > 1) {
            return NONE;
        }
        return looks.add(v, is) ? looks.size : NONE;
    }

    public int forget() {
        int were = looks.size;
        looks.size = 0;
        return were;
    }

    public int laws() {
        int many = 0;
        roll.clear();
        for (int m = 1; m <= MOST_MODULUS; m++) {
            for (int r = 0; r < m; r++) {
                if (fitsLooks(m, r)) {
                    if (many == 0) {
                        roll.tell(m, r);
                    }
                    many++;
                }
            }
        }
        return many;
    }

    private boolean fitsLooks(int m, int r) {
        for (int i = 0; i < looks.size; i++) {
            if (likes(m, r, looks.what[i]) != (looks.value[i] == 1)) {
                return false;
            }
        }
        return true;
    }

    private static boolean likes(int m, int r, int worth) {
        return m > 0 && worth % m == r;
    }

    /** How many of the laws that fit all looks like a WORTH, or, if not so, do not. */
    private int lawsThat(boolean like, int worth) {
        int many = 0;
        for (int m = 1; m <= MOST_MODULUS; m++) {
            for (int r = 0; r < m; r++) {
                if (likes(m, r, worth) == like && fitsLooks(m, r)) {
                    many++;
                }
            }
        }
        return many;
    }

    public int sure() {
        int liked = 0;
        int disliked = 0;
        for (int worth = 0; worth <= MOST_WORTH; worth++) {
            int like = lawsThat(true, worth);
            int dislike = lawsThat(false, worth);
            if (like > 0 && dislike == 0) {
                liked |= 1 << worth;
            }
            if (dislike > 0 && like == 0) {
                disliked |= 1 << worth;
            }
        }
        roll.tell(disliked);
        return liked;
    }

    public int tries() {
        int best = BY_NONE;
        int fewest = 0;
        for (int worth = 0; worth <= MOST_WORTH; worth++) {
            int most = Math.max(lawsThat(true, worth), lawsThat(false, worth));
            if (most > 0 && (best < 0 || most < fewest)) {
                best = worth;
                fewest = most;
            }
        }
        if (best >= 0) {
            roll.tell(fewest);
        }
        return best;
    }

    // ---- chances, who it was

    public int sings(int n, int v, int p) {
        if (n < 1 || n > MOST_CHANCES || v < 0 || v > 99 || p < 0 || p > 10) {
            return NONE;
        }
        weigh(n, p);
        long chance = 0;
        for (int sum = v; sum <= MOST_SUNG; sum++) {
            chance += chances[sum];
        }
        roll.clear();
        tellFraction(chance, tenToThe(n));
        return 0;
    }

    /** The chances of all sums of the next n SONGS, in parts of 10 to the n. */
    private void weigh(int n, int p) {
        for (int sum = 0; sum <= MOST_SUNG; sum++) {
            chances[sum] = sum == 0 ? 1 : 0;
        }
        for (int night = 0; night < n; night++) {
            int worth = square.songOn(now.night + night);
            // from above, as what is below must still be as it was without this SONG
            for (int sum = MOST_SUNG; sum >= 0; sum--) {
                long sung = sum >= worth ? chances[sum - worth] : 0;
                chances[sum] = chances[sum] * (10 - p) + sung * p;
            }
        }
    }

    public int counts(int n, int q, int p) {
        if (n < 1 || n > MOST_CHANCES || q < 0 || q > 100 || p < 0 || p > 10) {
            return NONE;
        }
        weigh(n, p);
        long needed = q * tenToThe(n);
        long chance = 0;
        for (int v = MOST_SUNG; v > 0; v--) {
            chance += chances[v];
            if (chance * 100 >= needed) {
                return v;
            }
        }
        return 0;
    }

    public int told(int what, int v) {
        if (!canBeTold(what, v)) {
            return NONE;
        }
        return hearsay.add(what, v) ? hearsay.size : NONE;
    }

    private static boolean canBeTold(int what, int v) {
        switch (what) {
            case 0:
                return v >= 0 && v <= 3;
            case 1:
                return v >= 1 && v <= MOST_WANT;
            case 2:
                return v >= 0 && v <= MOST_HEARD;
            case 3:
                return v >= 0 && v <= 1;
            case 4:
                return v >= 0 && v <= MOST_PAY;
            default:
                return false;
        }
    }

    public int deny() {
        int were = hearsay.size;
        hearsay.size = 0;
        return were;
    }

    public int fits() {
        int who = suspects();
        roll.tell(Integer.bitCount(who));
        return who;
    }

    private int suspects() {
        int who = 0;
        for (int i = 0; i < square.size; i++) {
            boolean fit = true;
            for (int j = 0; j < hearsay.size; j++) {
                fit = fit && isSo(i, hearsay.what[j], hearsay.value[j]);
            }
            if (fit) {
                who |= 1 << i;
            }
        }
        return who;
    }

    private boolean isSo(int hearer, int what, int v) {
        switch (what) {
            case 0:
                return square.sort[hearer] == v;
            case 1:
                return square.want[hearer] >= v;
            case 2:
                return now.heard[hearer] <= v;
            case 3:
                return now.surcharged[hearer] > 0 == (v == 1);
            default:
                return square.pay[hearer] == v;
        }
    }

    public int ask() {
        int who = suspects();
        int all = Integer.bitCount(who);
        if (all == 0) {
            return BY_NONE;
        }
        int best = 0;
        int fewest = all + 1;
        for (int v = 0; v <= MOST_PAY; v++) {
            int some = 0;
            for (int i = 0; i < square.size; i++) {
                if ((who >> i & 1) != 0 && square.pay[i] <= v) {
                    some++;
                }
            }
            int most = Math.max(some, all - some);
            if (most < fewest) {
                best = v;
                fewest = most;
            }
        }
        roll.tell(fewest);
        return best;
    }

    // ---- rests, rules, years

    public int rests(int v, int a, int b) {
        if (v < 0 || v > 20 || a < 0 || a > 5 || b < 0 || b > 5) {
            return NONE;
        }
        int many = 0;
        roll.clear();
        for (int x = 0; x <= MOST_HOURS; x++) {
            for (int y = 0; y <= MOST_HOURS; y++) {
                if (content(v, a, x, y) && content(v, b, y, x)) {
                    if (many == 0) {
                        roll.tell(x, y);
                    }
                    many++;
                }
            }
        }
        return many;
    }

    private static boolean content(int v, int cost, int own, int other) {
        int has = had(v, cost, own, other);
        for (int hours = 0; hours <= MOST_HOURS; hours++) {
            if (had(v, cost, hours, other) > has) {
                return false;
            }
        }
        return true;
    }

    private static int had(int v, int cost, int own, int other) {
        return (own + other >= 9 ? v : v / 2) - cost * own;
    }

    public int law() {
        int fault = spare.read(text);
        text.size = 0;
        if (fault != FINE) {
            return LAW_FAULT - fault;
        }
        int byOther = bookIn(LAW_NIGHTS, spare);
        int byRule = bookIn(LAW_NIGHTS, square.rule);
        roll.tell(byOther, byRule);
        return byOther - byRule;
    }

    public int years(int seed, int n) {
        if (n < 1 || n > MOST_NIGHTS) {
            return NONE;
        }
        ahead.copy(now);
        drawn = seed;
        for (int i = 0; i < n; i++) {
            drawYear();
        }
        roll.tell(ahead.money, ahead.heardOfAll(square.size));
        return ahead.book;
    }

    private void drawYear() {
        int kind = draw(4);
        if (kind < 2) {
            square.pass(ahead, square.rule);
        } else if (square.size > 0) {
            int hearer = draw(square.size);
            if (kind == 2) {
                turn(ahead, hearer);
            } else {
                surcharge(ahead, hearer, draw(9) + 1);
            }
        }
    }

    private int draw(int n) {
        drawn = drawn * 1103515245 + 12345;
        return n > 0 ? (drawn >>> 16) % n : 0;
    }

    // ---- kept

    public boolean keep(int i) {
        if (i < 0 || i >= MOST_KEPT) {
            return false;
        }
        kept[i].copy(now);
        keptHearers[i] = square.size;
        return true;
    }

    public boolean again(int i) {
        // HEARERS never go for good: if there are as many as then, none came since
        if (i < 0 || i >= MOST_KEPT || keptHearers[i] != square.size) {
            return false;
        }
        now.copy(kept[i]);
        past.size = 0;
        return true;
    }

    public int count(int what) {
        switch (what) {
            case 0:
                return square.songs;
            case 1:
                return square.size;
            case 2:
                return now.night;
            case 3:
                return now.book;
            case 4:
                return now.money;
            case 5:
                return now.stake;
            case 6:
                return 10 + now.gain;
            case 7:
                return now.present;
            case 8:
                return now.heardOfAll(square.size);
            case 9:
                return now.surchargedOfAll(square.size);
            case 10:
                return looks.size;
            case 11:
                return hearsay.size;
            case 12:
                return past.size;
            case 13:
                return roll.size;
            case 14:
                return text.size;
            default:
                return NONE;
        }
    }

    public long row(int i) throws NoSuchElementException {
        if (i < 0 || i >= roll.size) {
            throw new NoSuchElementException();
        }
        return roll.numbers[i];
    }

    /** THE TEXT. */
    private static final class Text {
        /** Stands for the sign behind the last one: no sign is below 0. */
        static final int OUTSIDE = -1;

        final int[] signs = new int[MOST_SIGNS];
        int size;

        boolean add(int four) {
            if (size < 0 || size > MOST_SIGNS - 4) {
                return false;
            }
            for (int shift = 24; shift >= 0; shift -= 8) {
                signs[size] = four >>> shift & 255;
                size++;
            }
            return true;
        }

        int at(int p) {
            return p >= 0 && p < size ? signs[p] : OUTSIDE;
        }

        int digit(int p) {
            int sign = at(p);
            return sign >= '0' && sign <= '9' ? sign - '0' : -1;
        }
    }

    /** The ROW. */
    private static final class Row {
        final long[] numbers = new long[MOST_HEARERS + 1];
        int size;

        void clear() {
            size = 0;
        }

        void add(long number) {
            if (size >= 0 && size < numbers.length) {
                numbers[size] = number;
                size++;
            }
        }

        void tell(long only) {
            clear();
            add(only);
        }

        void tell(long one, long other) {
            clear();
            add(one);
            add(other);
        }
    }

    /** Pairs of numbers that were said, 12 at most: looks, or what was told of a HEARER. */
    private static final class Said {
        final int[] what = new int[MOST_SAID];
        final int[] value = new int[MOST_SAID];
        int size;

        boolean add(int of, int is) {
            if (size < 0 || size >= MOST_SAID) {
                return false;
            }
            what[size] = of;
            value[size] = is;
            size++;
            return true;
        }
    }

    /** What undo() brings back. SORT, WANT and PAY are not in it: hearers() alone changes them. */
    private static final class Estate {
        final int[] heard = new int[MOST_HEARERS];
        final int[] surcharged = new int[MOST_HEARERS];
        int present;
        int night;
        int book;
        int money = 20;
        int stake;
        int gain = 1;

        void copy(Estate other) {
            System.arraycopy(other.heard, 0, heard, 0, MOST_HEARERS);
            System.arraycopy(other.surcharged, 0, surcharged, 0, MOST_HEARERS);
            present = other.present;
            night = other.night;
            book = other.book;
            money = other.money;
            stake = other.stake;
            gain = other.gain;
        }

        void hear(int hearer, int more) {
            heard[hearer] = Math.min(MOST_HEARD, heard[hearer] + more);
        }

        void earn(int coins) {
            money = Math.min(MOST_COINS, money + coins);
        }

        int heardOfAll(int size) {
            int sum = 0;
            for (int i = 0; i < size && i < MOST_HEARERS; i++) {
                sum += heard[i];
            }
            return sum;
        }

        int surchargedOfAll(int size) {
            int sum = 0;
            for (int i = 0; i < size && i < MOST_HEARERS; i++) {
                sum += surcharged[i];
            }
            return sum;
        }
    }

    /** What can be undone: how all was ahead of the latest acts, the oldest first. */
    private static final class Past {
        final Estate[] estates = new Estate[MOST_UNDONE];
        int size;

        Past() {
            for (int i = 0; i < MOST_UNDONE; i++) {
                estates[i] = new Estate();
            }
        }

        void push(Estate estate) {
            if (size >= MOST_UNDONE) {
                // the oldest one is forgotten, and its room used again
                Estate oldest = estates[0];
                for (int i = 1; i < MOST_UNDONE; i++) {
                    estates[i - 1] = estates[i];
                }
                estates[MOST_UNDONE - 1] = oldest;
                size = MOST_UNDONE - 1;
            }
            estates[size].copy(estate);
            size++;
        }

        boolean pop(Estate estate) {
            if (size <= 0) {
                return false;
            }
            size--;
            estate.copy(estates[size]);
            return true;
        }
    }

    /** SONGS, what HEARERS are by nature, THE RULE, and how a NIGHT goes by them. */
    private static final class Square {
        final int[] worths = new int[MOST_SONGS];
        final int[] sort = new int[MOST_HEARERS];
        final int[] want = new int[MOST_HEARERS];
        final int[] pay = new int[MOST_HEARERS];
        final int[] parts = new int[MOST_HEARERS];
        int songs = 1;
        int size;
        Rule rule = new Rule();

        /** Of the NIGHT that was parted last: what was paid, what is left, who has something. */
        int paid;
        int left;
        int having;

        boolean has(int hearer) {
            return hearer >= 0 && hearer < size;
        }

        void learn(Text text) {
            songs = Math.min(text.size, MOST_SONGS);
            for (int i = 0; i < songs; i++) {
                worths[i] = text.digit(i);
            }
        }

        int songOn(int night) {
            return songs > 0 && night >= 0 ? worths[night % songs] : 0;
        }

        int may(Rule by, int night, int hearer, int heard, int present) {
            int[] facts = by.facts;
            facts[0] = songOn(night);
            facts[1] = sort[hearer];
            facts[2] = heard;
            facts[3] = want[hearer];
            facts[4] = pay[hearer];
            facts[5] = night % WEEK;
            facts[6] = present;
            return put(by.answer(), 0, want[hearer]);
        }

        void part(Estate estate, int present, Rule by) {
            int many = Integer.bitCount(present);
            left = songOn(estate.night);
            paid = 0;
            having = 0;
            for (int i = 0; i < size; i++) {
                parts[i] = 0;
                if ((present >> i & 1) != 0 && left > 0) {
                    parts[i] = Math.min(left, may(by, estate.night, i, estate.heard[i], many));
                    left -= parts[i];
                    paid += parts[i] * pay[i];
                    having |= parts[i] > 0 ? 1 << i : 0;
                }
            }
        }

        void pass(Estate estate, Rule by) {
            part(estate, estate.present, by);
            for (int i = 0; i < size; i++) {
                estate.hear(i, parts[i]);
            }
            estate.earn(paid);
            estate.book = Math.min(MOST_COINS, estate.book + left);
            if (estate.night % WEEK == WEEK - 1) {
                estate.stake = grown(estate.stake, estate.gain);
            }
            estate.night++;
        }
    }

    /**
     * One NIGHT parted among many sets of HEARERS. What a HEARER MAY have hangs on how many are
     * PRESENT and on how much more than now it has HEARD alone: it is worked out once for all sets.
     */
    private static final class Parting {
        final int kinds;
        final int[] mays;
        final int[] more = new int[MOST_HEARERS];
        final int[] parts = new int[MOST_HEARERS];
        int worth;
        int paid;
        int left;

        Parting(int mostMore) {
            kinds = put(mostMore, 0, MOST_WORTH) + 1;
            mays = new int[MOST_HEARERS * kinds * (MOST_HEARERS + 1)];
        }

        int place(int hearer, int heardMore, int present) {
            return (hearer * kinds + heardMore) * (MOST_HEARERS + 1) + present;
        }

        void ready(Square square, Estate estate, int night, int mostMore) {
            worth = square.songOn(night);
            for (int i = 0; i < square.size; i++) {
                for (int m = 0; m <= mostMore && m < kinds; m++) {
                    int heard = Math.min(MOST_HEARD, estate.heard[i] + m);
                    for (int present = 1; present <= square.size; present++) {
                        mays[place(i, m, present)] = square.may(square.rule, night, i, heard, present);
                    }
                }
            }
        }

        /** The most that a HEARER may have here, whatever else is so. */
        int mostOf(int hearer, int size, int mostMore) {
            int most = 0;
            for (int m = 0; m <= mostMore && m < kinds; m++) {
                for (int present = 1; present <= size && present <= MOST_HEARERS; present++) {
                    most = Math.max(most, mays[place(hearer, m, present)]);
                }
            }
            return most;
        }

        void follow(Square square, Parting earlier) {
            for (int i = 0; i < square.size; i++) {
                more[i] = Math.min(earlier.parts[i], kinds - 1);
            }
        }

        void share(Square square, int who) {
            int present = Integer.bitCount(who);
            left = worth;
            paid = 0;
            for (int i = 0; i < square.size; i++) {
                parts[i] = 0;
                if ((who >> i & 1) != 0 && left > 0) {
                    int part = Math.min(left, mays[place(i, more[i], present)]);
                    parts[i] = part;
                    left -= part;
                    paid += part * square.pay[i];
                }
            }
        }
    }

    /** A RULE: read once, kept as things with the signs that join them behind them. */
    private static final class Rule {
        static final String LETTERS = "vkhwpnc";
        static final int MOST_DEEP = 4;
        static final int MOST_DIGITS = 3;

        /** Minus ahead of a thing, to be told from that between two: no sign of a text is so great. */
        static final int AHEAD = 256;

        /** Numbers are 0 and more; letters -1 and less by their place; signs -40 and less. */
        final int[] code = new int[MOST_RULE_SIGNS];
        final int[] held = new int[MOST_RULE_SIGNS];
        final int[] stack = new int[MOST_RULE_SIGNS];
        final int[] facts = new int[LETTERS.length()];
        int size;

        private int waiting;
        private int deep;
        private int compared;
        private int digits;
        private boolean open;

        /** FINE, or the place of the first sign that can't stand there. */
        int read(Text text) {
            size = 0;
            waiting = 0;
            deep = 0;
            compared = 0;
            open = true;
            int length = Math.min(text.size, MOST_RULE_SIGNS);
            for (int p = 0; p < length; p++) {
                if (!(open ? readThing(text.at(p), text.digit(p)) : readNext(text.at(p), text.digit(p)))) {
                    return p;
                }
            }
            if (length > 0 && (open || deep > 0)) {
                return length;
            }
            release(0);
            return text.size > MOST_RULE_SIGNS ? MOST_RULE_SIGNS : FINE;
        }

        private boolean readThing(int sign, int digit) {
            if (sign == '-') {
                hold(AHEAD);
                return true;
            }
            if (sign == '(') {
                if (deep >= MOST_DEEP) {
                    return false;
                }
                deep++;
                compared &= ~(1 << deep);
                hold(sign);
                return true;
            }
            int letter = LETTERS.indexOf((char) sign);
            if (digit < 0 && letter < 0) {
                return false;
            }
            emit(digit >= 0 ? digit : -1 - letter);
            digits = digit >= 0 ? 1 : MOST_DIGITS;
            open = false;
            return true;
        }

        private boolean readNext(int sign, int digit) {
            if (digit >= 0) {
                return readDigit(digit);
            }
            if (sign == ')') {
                return close();
            }
            int binding = bindingOf(sign);
            if (binding == 0 || binding == 1 && (compared >> deep & 1) != 0) {
                return false;
            }
            if (binding == 1) {
                compared |= 1 << deep;
            }
            release(binding);
            hold(sign);
            open = true;
            return true;
        }

        private boolean readDigit(int digit) {
            if (digits >= MOST_DIGITS || size <= 0) {
                return false;
            }
            code[size - 1] = code[size - 1] * 10 + digit;
            digits++;
            return true;
        }

        private boolean close() {
            if (deep == 0) {
                return false;
            }
            release(1);
            waiting = Math.max(0, waiting - 1);
            deep--;
            digits = MOST_DIGITS;
            return true;
        }

        /** How strongly a sign binds; 0 for ( and for what is none. */
        private static int bindingOf(int sign) {
            switch (sign) {
                case '<':
                case '>':
                case '=':
                    return 1;
                case '+':
                case '-':
                    return 2;
                case '*':
                case '/':
                    return 3;
                case AHEAD:
                    return 4;
                default:
                    return 0;
            }
        }

        private void hold(int sign) {
            if (waiting < MOST_RULE_SIGNS) {
                held[waiting] = sign;
                waiting++;
            }
        }

        private void emit(int what) {
            if (size < MOST_RULE_SIGNS) {
                code[size] = what;
                size++;
            }
        }

        /** Signs that bind as strongly as the next one, or more so, have all their things. */
        private void release(int binding) {
            while (waiting > 0 && bindingOf(held[waiting - 1]) >= binding) {
                waiting--;
                emit(-held[waiting]);
            }
        }

        int answer() {
            if (size == 0) {
                return facts[0] - facts[1] - facts[2] / 10;
            }
            int top = 0;
            for (int i = 0; i < size; i++) {
                int what = code[i];
                if (what >= -LETTERS.length() && top < MOST_RULE_SIGNS) {
                    stack[top] = what >= 0 ? what : facts[-1 - what];
                    top++;
                } else if (what == -AHEAD && top > 0) {
                    stack[top - 1] = -stack[top - 1];
                } else if (top > 1) {
                    top--;
                    stack[top - 1] = join(-what, stack[top - 1], stack[top]);
                }
            }
            return stack[0];
        }

        private static int join(int sign, int left, int right) {
            switch (sign) {
                case '<':
                    return left < right ? 1 : 0;
                case '>':
                    return left > right ? 1 : 0;
                case '=':
                    return left == right ? 1 : 0;
                case '+':
                    return left + right;
                case '-':
                    return left - right;
                case '*':
                    return left * right;
                default:
                    return right == 0 ? 0 : left / right;
            }
        }
    }
}
