import java.util.Arrays;

/** Promises 1 a new object, 5 read, 6 write, 7 seal, 24 told. */
public final class PagesTest {
    private static final Checks CHECKS = new Checks("PagesTest");

    public static void main(String[] args) {
        promise1EverySize();
        promise1NearestNumber();
        promise5ReadsEveryPage();
        promise5ReadOfBrokenWayLeavesTheDraft();
        promise6WriteChangesItsWayAlone();
        promise6WriteOnBrokenWayChangesNothing();
        promise6WriteBesideABrokenPage();
        promise5And6RefuseOtherPages();
        promise7SealMendsAll();
        promise7SealTakesPagesAsTheyAre();
        promise24Told();
        CHECKS.end();
    }

    private static void promise1EverySize() {
        for (int pages = 1; pages <= 64; pages++) {
            SealedPages x = new SealedPages(pages);
            Model m = new Model(pages);
            CHECKS.due("told 0 of " + pages, x.told(0), pages);
            CHECKS.dueRow("new disk of " + pages, Checks.diskOf(x), m.disk);
            CHECKS.dueRow("new root of " + pages, Checks.rootOf(x), m.root);
            CHECKS.due("new held of " + pages, x.held(), pages);
            for (int page = 0; page < pages; page++) {
                CHECKS.due("read " + page + " of new " + pages, x.read(page), 0);
                CHECKS.dueRow("page " + page, Checks.draftOf(x), new int[64]);
            }
        }
    }

    private static void promise1NearestNumber() {
        int[][] rows = {{0, 1}, {-1, 1}, {-64, 1}, {Integer.MIN_VALUE, 1}, {65, 64}, {128, 64}, {257, 64},
            {Integer.MAX_VALUE, 64}};
        for (int[] row : rows) {
            SealedPages x = new SealedPages(row[0]);
            CHECKS.due("pages of new " + row[0], x.told(0), row[1]);
            CHECKS.due("head of new " + row[0], x.disk(2), row[1]);
            CHECKS.due("held of new " + row[0], x.held(), row[1]);
        }
    }

    /** A draft that is another for each page. */
    private static int[] fillDraft(SealedPages x, int seed) {
        int[] bytes = new int[64];
        for (int i = 0; i < 64; i++) {
            bytes[i] = (31 * seed + 7 * i + 1) & 255;
            x.put(i, bytes[i]);
        }
        return bytes;
    }

    private static void promise5ReadsEveryPage() {
        for (int pages : new int[] {1, 2, 3, 5, 7, 33, 64}) {
            SealedPages x = new SealedPages(pages);
            int[][] written = new int[pages][];
            for (int page = 0; page < pages; page++) {
                written[page] = fillDraft(x, page);
                CHECKS.due("write " + page + " of " + pages, x.write(page), 0);
            }
            for (int page = pages - 1; page >= 0; page--) {
                CHECKS.due("read " + page + " of " + pages, x.read(page), 0);
                CHECKS.dueRow("page " + page + " of " + pages, Checks.draftOf(x), written[page]);
            }
        }
    }

    private static void promise5ReadOfBrokenWayLeavesTheDraft() {
        SealedPages x = new SealedPages(6);
        int[] draft = fillDraft(x, 5);
        x.alter(8 + 64 * 3, 128);
        CHECKS.due("read a broken page", x.read(3), 3);
        CHECKS.dueRow("draft after that", Checks.draftOf(x), draft);
        x.alter(x.node(1, 1), 1);
        CHECKS.due("read below a broken node", x.read(3), 5);
        CHECKS.dueRow("draft after that", Checks.draftOf(x), draft);
        CHECKS.due("read of another way", x.read(4), 0);
        CHECKS.dueRow("draft after a read", Checks.draftOf(x), new int[64]);
    }

    private static void promise6WriteChangesItsWayAlone() {
        for (int pages : new int[] {1, 2, 3, 5, 6, 11, 64}) {
            for (int page = 0; page < pages; page += 1 + pages / 8) {
                SealedPages x = new SealedPages(pages);
                Model m = new Model(pages);
                int[] draft = fillDraft(x, page + 1);
                m.draft = draft.clone();
                CHECKS.due("write " + page + " of " + pages, x.write(page), m.write(page));
                CHECKS.dueRow("disk after write", Checks.diskOf(x), m.disk);
                CHECKS.dueRow("root after write", Checks.rootOf(x), m.root);
                CHECKS.dueRow("draft after write", Checks.draftOf(x), draft);
                CHECKS.due("held after write", x.held(), pages);
            }
        }
    }

    private static void promise6WriteOnBrokenWayChangesNothing() {
        int[][] rows = {{0, 1}, {7, 1}, {8 + 64 * 2, 3}, {8 + 64 * 5 + 32 * 2, 3 + 1}, {8 + 64 * 5 + 32 * 3, 3 + 1},
            {8 + 64 * 5 + 32 * 6, 3 + 2}, {8 + 64 * 5 + 32 * 8, 3 + 3}, {8 + 64 * 5 + 32 * 10, 2}};
        for (int[] row : rows) {
            SealedPages x = new SealedPages(5);
            fillDraft(x, 1);
            x.alter(row[0], 2);
            int[] disk = Checks.diskOf(x);
            int[] root = Checks.rootOf(x);
            CHECKS.due("write with byte " + row[0] + " altered", x.write(2), row[1]);
            CHECKS.dueRow("disk after that", Checks.diskOf(x), disk);
            CHECKS.dueRow("root after that", Checks.rootOf(x), root);
        }
    }

    /** The broken page's node still tells what was sealed, so the write must not mend it. */
    private static void promise6WriteBesideABrokenPage() {
        SealedPages x = new SealedPages(4);
        fillDraft(x, 9);
        x.alter(8, 1);
        CHECKS.due("write beside", x.write(1), 0);
        CHECKS.due("fault of the broken page", x.fault(0), 3);
        CHECKS.due("held", x.held(), 3);
        x.alter(8, 1);
        CHECKS.due("held after mending", x.held(), 4);
    }

    private static void promise5And6RefuseOtherPages() {
        for (int pages : new int[] {1, 4, 64}) {
            SealedPages x = new SealedPages(pages);
            fillDraft(x, 3);
            int[] disk = Checks.diskOf(x);
            int[] draft = Checks.draftOf(x);
            for (int page : new int[] {-1, pages, pages + 1, 65, Integer.MIN_VALUE, Integer.MAX_VALUE}) {
                CHECKS.due("read " + page + " of " + pages, x.read(page), -1);
                CHECKS.due("write " + page + " of " + pages, x.write(page), -1);
            }
            x.alter(0, 1);
            CHECKS.due("read refused before a fault", x.read(pages), -1);
            CHECKS.due("write refused before a fault", x.write(-1), -1);
            x.alter(0, 1);
            CHECKS.dueRow("disk after refusals", Checks.diskOf(x), disk);
            CHECKS.dueRow("draft after refusals", Checks.draftOf(x), draft);
            for (int what = 1; what <= 3; what++) {
                CHECKS.due("told " + what + " after refusals", x.told(what), 0);
            }
        }
    }

    private static void promise7SealMendsAll() {
        int[] nodes = {0, 1, 3, 6, 7, 11, 12, 14, 15};
        for (int pages = 1; pages <= 8; pages++) {
            SealedPages x = new SealedPages(pages);
            int[] disk = Checks.diskOf(x);
            int[] root = Checks.rootOf(x);
            for (int i = 0; i < x.size(); i++) {
                if (i < 8 || i >= 8 + 64 * pages) {
                    x.alter(i, i + 1);
                }
            }
            CHECKS.due("seal of " + pages, x.seal(), nodes[pages]);
            CHECKS.dueRow("disk after seal", Checks.diskOf(x), disk);
            CHECKS.dueRow("root after seal", Checks.rootOf(x), root);
        }
        CHECKS.due("seal of 64", new SealedPages(64).seal(), 127);
    }

    private static void promise7SealTakesPagesAsTheyAre() {
        SealedPages x = new SealedPages(7);
        Model m = new Model(7);
        int[] draft = fillDraft(x, 2);
        for (int i = 8; i < 8 + 64 * 7; i += 5) {
            CHECKS.due("alter", x.alter(i, i), m.alter(i, i));
        }
        CHECKS.due("seal", x.seal(), m.seal());
        CHECKS.dueRow("disk after seal", Checks.diskOf(x), m.disk);
        CHECKS.dueRow("root after seal", Checks.rootOf(x), m.root);
        CHECKS.dueRow("draft after seal", Checks.draftOf(x), draft);
        CHECKS.due("held after seal", x.held(), 7);
        CHECKS.due("read after seal", x.read(6), 0);
        CHECKS.dueRow("page after seal", Checks.draftOf(x), Arrays.copyOfRange(m.disk, 8 + 64 * 6, 72 + 64 * 6));
    }

    private static void promise24Told() {
        SealedPages x = new SealedPages(3);
        x.read(0);
        x.read(1);
        x.write(2);
        x.write(2);
        x.write(0);
        x.alter(8, 1);
        x.read(0);
        x.write(0);
        x.read(0);
        x.write(0);
        x.read(3);
        x.write(-1);
        x.fault(0);
        x.held();
        x.first();
        x.seal();
        int[] want = {3, 2, 3, 4};
        for (int what = 0; what < 4; what++) {
            CHECKS.due("told " + what, x.told(what), want[what]);
        }
        x.keep();
        x.read(0);
        x.back();
        x.open();
        CHECKS.due("told 1 is not given back", x.told(1), 3);
        for (int what : new int[] {-1, 4, 5, Integer.MIN_VALUE, Integer.MAX_VALUE}) {
            CHECKS.due("told " + what, x.told(what), -1);
        }
    }
}
