import java.lang.management.ManagementFactory;
import java.util.Arrays;

/** All rows are made with the object: no call makes anything, and an object is small. */
public final class RoomTest {
    private static final int KINDS = 33;
    private static final com.sun.management.ThreadMXBean METER =
        (com.sun.management.ThreadMXBean) ManagementFactory.getThreadMXBean();

    public static void main(String[] args) {
        long[] used = new long[KINDS];
        long made = 0;
        // The first rounds let the machine load what it needs; the least of all rounds is what calls use.
        Arrays.fill(used, Long.MAX_VALUE);
        for (int round = 0; round < 5; round++) {
            long before = METER.getCurrentThreadAllocatedBytes();
            SteppingStones ford = prepared();
            made = METER.getCurrentThreadAllocatedBytes() - before;
            for (int kind = 0; kind < KINDS; kind++) {
                long start = METER.getCurrentThreadAllocatedBytes();
                call(ford, kind);
                used[kind] = Math.min(used[kind], METER.getCurrentThreadAllocatedBytes() - start);
            }
        }
        for (int kind = 0; kind < KINDS; kind++) {
            Due.is("bytes used by kind " + kind, used[kind], 0);
        }
        Due.is("an object has at most 32 KiB: " + made, made <= 32768, true);
        Due.end();
    }

    private static SteppingStones prepared() {
        SteppingStones ford = new SteppingStones();
        for (int i = 0; i < 40; i++) {
            ford.stone(i, i * 7 % 40, 1 + i * 3 % 20, i % 10);
        }
        for (int p = 0; p < 8; p++) {
            ford.person(p, 3 + p);
        }
        // u1(n<9);x(r=3), padded
        ford.feed(0x7531286E, 0x3C39293B, 0x7828723D, 0x33292323, 0x23232323);
        ford.law(14);
        return ford;
    }

    private static void tape(SteppingStones ford, int four) {
        ford.feed(four, four, four, four, four);
    }

    private static void call(SteppingStones ford, int kind) {
        switch (kind) {
            case 0: ford.stone(0, 0, 1, 0); break;
            case 1: ford.take(39); break;
            case 2: ford.under(1, true); break;
            case 3: ford.person(1, 6); break;
            case 4: tape(ford, 0x01010101); break;
            case 5: ford.law(20); break;
            case 6: tape(ford, 0x352C333B); ford.notebook(7); break;
            case 7: ford.nights(60); break;
            case 8: ford.tried(60, 3); break;
            case 9: ford.stoneIs(1, 4); break;
            case 10: ford.at(1, 1); break;
            case 11: ford.cross(2, 101); break;
            case 12: ford.cross(2, 0); break;
            case 13: ford.driest(2, 0); break;
            case 14: ford.leastStride(); break;
            case 15: ford.howFar(2); break;
            case 16: ford.hold(5); break;
            case 17: ford.oneMore(0, 0); break;
            case 18: ford.islands(3, 100); break;
            case 19: ford.key(3, 0); break;
            case 20: ford.meet(2, 3, 1); break;
            case 21: ford.market(); break;
            case 22: ford.firstNight(0); break;
            case 23: tape(ford, 0x752C752C); ford.walk(1, 1, 19, 0); break;
            case 24: tape(ford, 0x01020304); ford.chalk(7, 6); break;
            case 25: ford.shape(0); ford.shape(1); ford.shape(2); ford.shape(3); break;
            case 26: tape(ford, 0x01020304); ford.letters(8, 1); break;
            case 27: ford.thrown(6); break;
            case 28: ford.seed(5); break;
            case 29: ford.keep(); break;
            case 30: ford.undo(); break;
            case 31: tape(ford, 0x01010101); ford.check(20); break;
            default: ford.count(6);
        }
    }
}
