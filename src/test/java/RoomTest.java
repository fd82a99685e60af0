import com.sun.management.ThreadMXBean;
import java.lang.management.ManagementFactory;

/** All calls of a run live in one room: an object is small, and its calls make nothing. */
public final class RoomTest {
    private static final int CALLS = 60;

    public static void main(String[] args) {
        ThreadMXBean bean = (ThreadMXBean) ManagementFactory.getThreadMXBean();
        // the first rounds load classes, which is not the program's doing
        long made = 0;
        for (int round = 0; round < 3; round++) {
            made = made(bean);
        }
        System.out.println("an object takes " + made / 1024 + " KiB");
        boolean wrong = made > 40 * 1024;
        HeldInTrust x = Check.made("9876543210", "o91;l82;c73;w64;o55;l46;c37;w28");
        long least = Long.MAX_VALUE;
        for (int round = 0; round < 5; round++) {
            long before = bean.getCurrentThreadAllocatedBytes();
            for (int i = 0; i < CALLS; i++) {
                call(x, i);
            }
            least = Math.min(least, bean.getCurrentThreadAllocatedBytes() - before);
        }
        System.out.println(CALLS + " calls make " + least + " bytes");
        if (wrong || least > 1024) {
            System.out.println("that is more than it should be");
            System.exit(1);
        }
    }

    private static long made(ThreadMXBean bean) {
        long before = bean.getCurrentThreadAllocatedBytes();
        HeldInTrust x = new HeldInTrust();
        long after = bean.getCurrentThreadAllocatedBytes();
        return x.count(1) == 0 ? after - before : 0;
    }

    private static void call(HeldInTrust x, int kind) {
        switch (kind) {
            case 0: x.sign(0x762d6b2d); x.sign(0x682f3130); x.rule(); break;
            case 1: x.sign(0x39383736); x.songs(); break;
            case 2: x.sign(0x7a000000); x.hearers(); break;
            case 3: x.sign(0x6e316330); x.sign(0x6e316330); x.spring(); break;
            case 4: x.sign(0x39000000); x.end(1); x.law(); break;
            case 5: x.nights(60); break;
            case 6: x.comes(3); break;
            case 7: x.hum(2, 1); break;
            case 8: x.stake(1); break;
            case 9: x.gain(1); break;
            case 10: x.advance(1); break;
            case 11: x.undo(); break;
            case 12: x.tonight(); break;
            case 13: x.later(99); break;
            case 14: x.enough(9999); break;
            case 15: x.drains(); break;
            case 16: x.hears(0, 99); break;
            case 17: x.quiet(60); break;
            case 18: x.admits(0); break;
            case 19: x.plans(0); break;
            case 20: x.fills(); break;
            case 21: x.order(); break;
            case 22: x.raises(9999); break;
            case 23: x.grows(9999, 30); break;
            case 24: x.adds(50); break;
            case 25: x.nearest(50); break;
            case 26: x.awards(999); break;
            case 27: x.envy(); break;
            case 28: x.bold(20, 20, 8, 5); break;
            case 29: x.notes(60, 9, 0); break;
            case 30: x.look(3, 1); break;
            case 31: x.laws(); break;
            case 32: x.sure(); break;
            case 33: x.tries(); break;
            case 34: x.forget(); break;
            case 35: x.sings(10, 40, 5); break;
            case 36: x.counts(10, 50, 5); break;
            case 37: x.told(1, 3); break;
            case 38: x.fits(); break;
            case 39: x.ask(); break;
            case 40: x.deny(); break;
            case 41: x.rests(20, 1, 1); break;
            case 42: x.years(5, 60); break;
            case 43: x.keep(0); break;
            case 44: x.again(0); break;
            case 45: x.hearer(1, 6); break;
            case 46: x.sheet(0, 8, 1, 1); break;
            default: x.count(kind - 47);
        }
    }
}
