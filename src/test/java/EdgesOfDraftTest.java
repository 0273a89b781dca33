import java.nio.ByteBuffer;
import java.util.Arrays;

/** Boundary cases of promises 2 put, 3 fill, 4 draft and 23 hash, each in a test of its own. */
public final class EdgesOfDraftTest {
    private static final int LEAST = Integer.MIN_VALUE;
    private static final int MOST = Integer.MAX_VALUE;
    private static final int[] NOT_0_TO_63 = {LEAST, LEAST + 63, -64, -1, 64, 65, 128, 256, MOST};
    private static final int[] NOT_0_TO_31 = {LEAST, LEAST + 31, -32, -1, 32, 33, 64, 256, MOST};
    private static final Checks CHECKS = new Checks("EdgesOfDraftTest");

    public static void main(String[] args) {
        promise2FirstAndLastByte();
        promise2TellsWhatItWas();
        promise2NoneOutside();
        promise2ChangesTheDraftAlone();
        promise3FirstAndLastEight();
        promise3HighestByteFirst();
        promise3NoneOutside();
        promise3ChangesTheDraftAlone();
        promise4FirstAndLastByte();
        promise4NoneOutside();
        promise23FirstZeroBytes();
        promise23AllBytes();
        promise23BytesBehindDoNotCount();
        promise23FirstAndLastByteOfTheHash();
        promise23NoneWhereNIsOutside();
        promise23NoneWhereIIsOutside();
        promise23ChangesNothing();
        CHECKS.end();
    }

    private static void promise2FirstAndLastByte() {
        for (int i : new int[] {0, 63}) {
            SealedPages x = new SealedPages(1);
            int[] want = new int[64];
            want[i] = 201;
            CHECKS.due("put " + i, x.put(i, 201), 0);
            CHECKS.dueRow("draft after put " + i, Checks.draftOf(x), want);
        }
    }

    private static void promise2TellsWhatItWas() {
        SealedPages x = new SealedPages(1);
        CHECKS.due("put over 0", x.put(63, 255), 0);
        CHECKS.due("put over 255", x.put(63, 255), 255);
        CHECKS.due("put over 255 again", x.put(63, 0), 255);
        CHECKS.due("put over 0 again", x.put(63, 1), 0);
        x.read(0);
        CHECKS.due("put over what was read", x.put(63, 1), 0);
        x.fill(7, 130L);
        CHECKS.due("put over what was filled", x.put(63, 1), 130);
    }

    private static void promise2NoneOutside() {
        for (int i : NOT_0_TO_63) {
            CHECKS.refused("put " + i, 3, x -> x.put(i, 170));
        }
    }

    private static void promise2ChangesTheDraftAlone() {
        CHECKS.leaves("put of what is there", 3, Seen::busy, x -> x.put(55, x.draft(55)), 77);
        SealedPages x = new SealedPages(2);
        x.read(1);
        x.put(0, 5);
        CHECKS.due("disk after read and put", x.disk(8 + 64), 0);
        CHECKS.due("held after put", x.held(), 2);
        CHECKS.due("root after put", x.root(0), new SealedPages(2).root(0));
    }

    private static void promise3FirstAndLastEight() {
        for (int k : new int[] {0, 7}) {
            SealedPages x = new SealedPages(1);
            int[] want = new int[64];
            Arrays.fill(want, 8 * k, 8 * k + 8, 255);
            CHECKS.due("fill " + k, x.fill(k, -1L), 8 * k);
            CHECKS.dueRow("draft after fill " + k, Checks.draftOf(x), want);
        }
    }

    // "become those of a long, the highest first"
    private static void promise3HighestByteFirst() {
        long[] values = {0L, 1L, -1L, 255L, 256L, 1L << 31, 1L << 32, 1L << 56, Long.MIN_VALUE, Long.MAX_VALUE,
            0x0102030405060708L, 0xfffefdfcfbfaf9f8L};
        for (long v : values) {
            SealedPages x = new SealedPages(1);
            x.fill(4, 0x5555555555555555L);
            CHECKS.due("fill 4 " + v, x.fill(4, v), 32);
            byte[] want = ByteBuffer.allocate(8).putLong(v).array();
            for (int i = 0; i < 8; i++) {
                CHECKS.due("draft " + (32 + i) + " after fill 4 " + v, x.draft(32 + i), want[i] & 255);
            }
            CHECKS.due("ahead of it", x.draft(31), 0);
            CHECKS.due("behind it", x.draft(40), 0);
        }
    }

    // 1 << 29 and 1 << 28 are numbers whose eightfold wraps back to 0 and to below 0
    private static void promise3NoneOutside() {
        for (int k : new int[] {LEAST, LEAST + 1, -8, -1, 8, 9, 63, 64, 1 << 28, 1 << 29, (1 << 29) + 1, MOST}) {
            CHECKS.refused("fill " + k, 3, x -> x.fill(k, 0x1122334455667788L));
        }
    }

    private static void promise3ChangesTheDraftAlone() {
        CHECKS.leaves("fill of what is there", 3, Seen::busy, x -> x.fill(6, 77L), 48);
        SealedPages x = new SealedPages(2);
        x.read(1);
        x.fill(0, -1L);
        CHECKS.due("disk after read and fill", x.disk(8 + 64), 0);
        CHECKS.due("held after fill", x.held(), 2);
    }

    private static void promise4FirstAndLastByte() {
        SealedPages x = new SealedPages(1);
        x.put(0, 255);
        x.put(63, 128);
        CHECKS.leaves("draft 0", 1, y -> { y.put(0, 255); y.put(63, 128); }, y -> y.draft(0), 255);
        CHECKS.due("draft 1", x.draft(1), 0);
        CHECKS.due("draft 62", x.draft(62), 0);
        CHECKS.due("draft 63", x.draft(63), 128);
    }

    private static void promise4NoneOutside() {
        for (int i : NOT_0_TO_63) {
            CHECKS.refused("draft " + i, 3, x -> x.draft(i));
        }
    }

    private static int[] hashOf(SealedPages x, int n) {
        int[] bytes = new int[32];
        for (int i = 0; i < 32; i++) {
            bytes[i] = x.hash(n, i);
        }
        return bytes;
    }

    private static void promise23FirstZeroBytes() {
        int[] want = Checks.sha();
        CHECKS.dueRow("hash 0 of a new draft", hashOf(new SealedPages(1), 0), want);
        CHECKS.dueRow("hash 0 of another draft", hashOf(Seen.made(3, Seen::busy), 0), want);
    }

    private static void promise23AllBytes() {
        CHECKS.dueRow("hash 64 of a new draft", hashOf(new SealedPages(1), 64), Checks.sha(new int[64]));
        SealedPages x = Seen.made(3, Seen::busy);
        CHECKS.dueRow("hash 64 of another draft", hashOf(x, 64), Checks.sha(Checks.draftOf(x)));
        int[] before = hashOf(x, 64);
        x.put(63, x.draft(63) ^ 1);
        CHECKS.due("the last byte counts", Arrays.equals(before, hashOf(x, 64)) ? 0 : 1, 1);
    }

    private static void promise23BytesBehindDoNotCount() {
        for (int n = 0; n < 64; n++) {
            SealedPages x = Seen.made(3, Seen::busy);
            int[] want = Checks.sha(Arrays.copyOf(Checks.draftOf(x), n));
            CHECKS.dueRow("hash " + n, hashOf(x, n), want);
            x.put(n, x.draft(n) ^ 255);
            x.put(63, x.draft(63) ^ 1);
            CHECKS.dueRow("hash " + n + " with other bytes behind", hashOf(x, n), want);
        }
    }

    private static void promise23FirstAndLastByteOfTheHash() {
        SealedPages x = new SealedPages(1);
        CHECKS.due("hash 0 0", x.hash(0, 0), 0xe3);
        CHECKS.due("hash 0 31", x.hash(0, 31), 0x55);
        CHECKS.due("hash 64 0", x.hash(64, 0), 0xf5);
        CHECKS.due("hash 64 31", x.hash(64, 31), 0x4b);
    }

    private static void promise23NoneWhereNIsOutside() {
        for (int n : new int[] {LEAST, LEAST + 64, -64, -1, 65, 66, 128, 256, MOST}) {
            CHECKS.refused("hash " + n + " 0", 3, x -> x.hash(n, 0));
            CHECKS.refused("hash " + n + " 31", 3, x -> x.hash(n, 31));
            CHECKS.refused("hash " + n + " 32", 3, x -> x.hash(n, 32));
        }
    }

    private static void promise23NoneWhereIIsOutside() {
        for (int i : NOT_0_TO_31) {
            CHECKS.refused("hash 0 " + i, 3, x -> x.hash(0, i));
            CHECKS.refused("hash 64 " + i, 3, x -> x.hash(64, i));
        }
    }

    private static void promise23ChangesNothing() {
        CHECKS.leaves("hash 0 0", 3, Seen::busy, x -> x.hash(0, 0), 0xe3);
        CHECKS.leaves("hash 64 0", 3, Seen::broken, x -> x.hash(64, 0),
                Checks.sha(Checks.draftOf(Seen.made(3, Seen::broken)))[0]);
    }
}
