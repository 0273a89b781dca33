import java.util.Arrays;

/** Promises 2 put, 3 fill, 4 draft, 23 hash. */
public final class DraftTest {
    private static final int[] OUTSIDE_64 = {-1, 64, 65, 255, 256, Integer.MIN_VALUE, Integer.MAX_VALUE};
    private static final Checks CHECKS = new Checks("DraftTest");

    public static void main(String[] args) {
        promise2Put();
        promise2Refuses();
        promise2TakesLowestEightBits();
        promise3Fill();
        promise3Refuses();
        promise4Draft();
        promise23HashOfEveryLength();
        promise23Refuses();
        CHECKS.end();
    }

    private static void promise2Put() {
        int[] want = new int[64];
        for (int i = 0; i < 64; i++) {
            want[i] = 3 * i + 1;
            SealedPages x = new SealedPages(2);
            for (int k = 0; k <= i; k++) {
                CHECKS.due("put " + k, x.put(k, want[k]), 0);
            }
            CHECKS.dueRow("draft after put " + i, Checks.draftOf(x), want);
            CHECKS.due("put again " + i, x.put(i, 7), want[i]);
            CHECKS.due("put leaves the disk", x.disk(8 + i), 0);
        }
    }

    private static void promise2Refuses() {
        SealedPages x = new SealedPages(2);
        x.put(0, 5);
        x.put(63, 6);
        int[] before = Checks.draftOf(x);
        for (int i : OUTSIDE_64) {
            CHECKS.due("put " + i, x.put(i, 9), -1);
        }
        CHECKS.dueRow("draft after refused put", Checks.draftOf(x), before);
    }

    private static void promise2TakesLowestEightBits() {
        SealedPages x = new SealedPages(1);
        int[][] rows = {{-1, 255}, {256, 0}, {511, 255}, {-128, 128}, {-256, 0}, {Integer.MIN_VALUE, 0},
            {Integer.MAX_VALUE, 255}, {0x12345678, 0x78}, {128, 128}};
        for (int[] row : rows) {
            x.put(63, row[0]);
            CHECKS.due("draft after put " + row[0], x.draft(63), row[1]);
        }
    }

    private static void promise3Fill() {
        for (int k = 0; k < 8; k++) {
            SealedPages x = new SealedPages(1);
            int[] want = new int[64];
            CHECKS.due("fill " + k, x.fill(k, 0x8102f3047506ff08L), 8 * k);
            int[] bytes = {0x81, 2, 0xf3, 4, 0x75, 6, 0xff, 8};
            System.arraycopy(bytes, 0, want, 8 * k, 8);
            CHECKS.dueRow("draft after fill " + k, Checks.draftOf(x), want);
            CHECKS.due("fill over " + k, x.fill(k, Long.MIN_VALUE), 8 * k);
            Arrays.fill(want, 0);
            want[8 * k] = 128;
            CHECKS.dueRow("draft after fill over " + k, Checks.draftOf(x), want);
            x.fill(k, -1L);
            Arrays.fill(want, 8 * k, 8 * k + 8, 255);
            CHECKS.dueRow("draft after fill -1 " + k, Checks.draftOf(x), want);
        }
    }

    private static void promise3Refuses() {
        SealedPages x = new SealedPages(1);
        for (int k : new int[] {-1, 8, 9, 64, 1 << 29, Integer.MIN_VALUE, Integer.MAX_VALUE}) {
            CHECKS.due("fill " + k, x.fill(k, -1L), -1);
        }
        CHECKS.dueRow("draft after refused fill", Checks.draftOf(x), new int[64]);
    }

    private static void promise4Draft() {
        SealedPages x = new SealedPages(64);
        CHECKS.dueRow("draft at first", Checks.draftOf(x), new int[64]);
        for (int i : OUTSIDE_64) {
            CHECKS.due("draft " + i, x.draft(i), -1);
        }
        x.put(0, 200);
        x.put(63, 201);
        CHECKS.due("draft 0", x.draft(0), 200);
        CHECKS.due("draft 63", x.draft(63), 201);
    }

    private static void promise23HashOfEveryLength() {
        for (int n = 0; n <= 64; n++) {
            SealedPages x = new SealedPages(1);
            for (int k = 0; k < 8; k++) {
                x.fill(k, 0x9e3779b97f4a7c15L * (k + 1));
            }
            int[] row = Checks.draftOf(x);
            int[] want = Checks.sha(Arrays.copyOf(row, n));
            for (int i = 0; i < 32; i++) {
                CHECKS.due("hash " + n + " " + i, x.hash(n, i), want[i]);
            }
            CHECKS.dueRow("draft after hash", Checks.draftOf(x), row);
        }
    }

    private static void promise23Refuses() {
        SealedPages x = new SealedPages(1);
        for (int n : new int[] {-1, 65, 128, Integer.MIN_VALUE, Integer.MAX_VALUE}) {
            CHECKS.due("hash n " + n, x.hash(n, 0), -1);
        }
        for (int i : new int[] {-1, 32, 33, Integer.MIN_VALUE, Integer.MAX_VALUE}) {
            CHECKS.due("hash i " + i, x.hash(0, i), -1);
            CHECKS.due("hash i " + i, x.hash(64, i), -1);
        }
    }
}
