import java.util.Arrays;
import java.util.function.Consumer;

/** Promises 1 a new object, 5 read, 6 write, 7 seal, 24 told. */
public final class PagesTest {
    private static final Checks CHECKS = new Checks("PagesTest");

    public static void main(String[] args) {
        promise1EverySize();
        promise1NearestNumber();
        promise5ReadsEveryPage();
        promise5ReadOfBrokenWayLeavesTheDraft();
        promise6WriteChangesItsWayAlone();
        promise6WriteOnBrokenWayChangesNothing();
        promise6WriteBesideABrokenPage();
        promise5And6RefuseOtherPages();
        promise7SealMendsAll();
        promise7SealTakesPagesAsTheyAre();
        promise24Told();
        CHECKS.end();
    }

    private static void promise1EverySize() {
        for (int pages = 1; pages <= 64; pages++) {
            SealedPages x = new SealedPages(pages);
            Model m = new Model(pages);
            CHECKS.due("told 0 of " + pages, x.told(0), pages);
            CHECKS.dueRow("new disk of " + pages, Seen.diskAfter(pages, y -> { }), m.disk);
            CHECKS.dueRow("new root of " + pages, Checks.rootOf(x), m.root);
            CHECKS.due("new held of " + pages, x.held(), pages);
            for (int page = 0; page < pages; page++) {
                SealedPages y = new SealedPages(pages);
                y.fill(page % 8, -1L);
                CHECKS.due("read " + page + " of new " + pages, y.read(page), 0);
                CHECKS.dueRow("page " + page, Checks.draftOf(y), new int[64]);
            }
        }
    }

    private static void promise1NearestNumber() {
        int[][] rows = {{0, 1}, {-1, 1}, {-64, 1}, {Integer.MIN_VALUE, 1}, {65, 64}, {128, 64}, {257, 64},
            {Integer.MAX_VALUE, 64}};
        for (int[] row : rows) {
            SealedPages x = new SealedPages(row[0]);
            CHECKS.due("pages of new " + row[0], x.told(0), row[1]);
            CHECKS.due("head of new " + row[0], x.disk(2), row[1]);
            CHECKS.due("held of new " + row[0], x.held(), row[1]);
        }
    }

    /** A draft that is another for each page. */
    private static int[] fillDraft(SealedPages x, int seed) {
        int[] bytes = new int[64];
        for (int i = 0; i < 64; i++) {
            bytes[i] = (31 * seed + 7 * i + 1) & 255;
            x.put(i, bytes[i]);
        }
        return bytes;
    }

    /** Page p gets a draft whose bytes 0 .. p are set, by two calls a page. */
    private static void writeEveryPage(SealedPages x, int pages) {
        for (int page = 0; page < pages; page++) {
            x.put(page, page + 1);
            CHECKS.due("write " + page + " of " + pages, x.write(page), 0);
        }
    }

    private static void promise5ReadsEveryPage() {
        for (int pages : new int[] {1, 2, 3, 5, 7, 33, 64}) {
            int[] want = new int[64];
            for (int page = 0; page < pages; page++) {
                want[page] = page + 1;
                SealedPages x = new SealedPages(pages);
                writeEveryPage(x, pages);
                CHECKS.due("read " + page + " of " + pages, x.read(page), 0);
                CHECKS.dueRow("page " + page + " of " + pages, Checks.draftOf(x), want);
            }
        }
    }

    private static void promise5ReadOfBrokenWayLeavesTheDraft() {
        SealedPages x = new SealedPages(6);
        int[] draft = fillDraft(x, 5);
        x.alter(8 + 64 * 3, 128);
        CHECKS.due("read a broken page", x.read(3), 3);
        CHECKS.dueRow("draft after that", Checks.draftOf(x), draft);
        x.alter(x.node(1, 1), 1);
        CHECKS.due("read below a broken node", x.read(3), 5);
        CHECKS.dueRow("draft after that", Checks.draftOf(x), draft);
        CHECKS.due("read of another way", x.read(4), 0);
        CHECKS.dueRow("draft after a read", Checks.draftOf(x), new int[64]);
    }

    private static void promise6WriteChangesItsWayAlone() {
        for (int pages : new int[] {1, 2, 3, 5, 6, 11, 64}) {
            for (int page = 0; page < pages; page += 1 + pages / 8) {
                int number = page;
                Consumer<SealedPages> run = y -> {
                    fillDraft(y, number + 1);
                    y.write(number);
                };
                SealedPages x = new SealedPages(pages);
                Model m = new Model(pages);
                int[] draft = fillDraft(x, page + 1);
                m.draft = draft.clone();
                CHECKS.due("write " + page + " of " + pages, x.write(page), m.write(page));
                CHECKS.dueRow("disk after write", Seen.diskAfter(pages, run), m.disk);
                CHECKS.dueRow("root after write", Checks.rootOf(x), m.root);
                CHECKS.dueRow("draft after write", Checks.draftOf(x), draft);
                CHECKS.due("held after write", x.held(), pages);
            }
        }
    }

    private static void promise6WriteOnBrokenWayChangesNothing() {
        int[][] rows = {{0, 1}, {7, 1}, {8 + 64 * 2, 3}, {8 + 64 * 5 + 32 * 2, 3 + 1}, {8 + 64 * 5 + 32 * 3, 3 + 1},
            {8 + 64 * 5 + 32 * 6, 3 + 2}, {8 + 64 * 5 + 32 * 8, 3 + 3}, {8 + 64 * 5 + 32 * 10, 2}};
        for (int[] row : rows) {
            Consumer<SealedPages> run = y -> {
                fillDraft(y, 1);
                y.alter(row[0], 2);
            };
            SealedPages x = Seen.made(5, run);
            int[] root = Checks.rootOf(x);
            CHECKS.due("write with byte " + row[0] + " altered", x.write(2), row[1]);
            CHECKS.dueRow("disk after that", Seen.diskAfter(5, run.andThen(y -> y.write(2))), Seen.diskAfter(5, run));
            CHECKS.dueRow("root after that", Checks.rootOf(x), root);
        }
    }

    /** The broken page's node still tells what was sealed, so the write must not mend it. */
    private static void promise6WriteBesideABrokenPage() {
        SealedPages x = new SealedPages(4);
        fillDraft(x, 9);
        x.alter(8, 1);
        CHECKS.due("write beside", x.write(1), 0);
        CHECKS.due("fault of the broken page", x.fault(0), 3);
        CHECKS.due("held", x.held(), 3);
        x.alter(8, 1);
        CHECKS.due("held after mending", x.held(), 4);
    }

    private static void refuseOtherPages(SealedPages x, int pages) {
        for (int page : new int[] {-1, pages, pages + 1, 65, Integer.MIN_VALUE, Integer.MAX_VALUE}) {
            CHECKS.due("read " + page + " of " + pages, x.read(page), -1);
            CHECKS.due("write " + page + " of " + pages, x.write(page), -1);
        }
        x.alter(0, 1);
        CHECKS.due("read refused before a fault", x.read(pages), -1);
        CHECKS.due("write refused before a fault", x.write(-1), -1);
        x.alter(0, 1);
    }

    private static void promise5And6RefuseOtherPages() {
        for (int pages : new int[] {1, 4, 64}) {
            Consumer<SealedPages> run = y -> fillDraft(y, 3);
            Consumer<SealedPages> refused = run.andThen(y -> refuseOtherPages(y, pages));
            SealedPages x = Seen.made(pages, refused);
            CHECKS.dueRow("disk after refusals", Seen.diskAfter(pages, refused), Seen.diskAfter(pages, run));
            CHECKS.dueRow("draft after refusals", Checks.draftOf(x), Checks.draftOf(Seen.made(pages, run)));
            for (int what = 1; what <= 3; what++) {
                CHECKS.due("told " + what + " after refusals", x.told(what), 0);
            }
        }
    }

    /** Head and tree all zeros: the tree of up to 8 pages is, but for its last node, no longer than they are. */
    private static void wipeHeadAndTree(SealedPages x, int pages) {
        int tree = 8 + 64 * pages;
        x.carry(8, 0, 8);
        x.carry(8, tree, Math.min(64 * pages, x.size() - tree));
        x.carry(8, x.size() - 32, 32);
    }

    private static void promise7SealMendsAll() {
        int[] nodes = {0, 1, 3, 6, 7, 11, 12, 14, 15};
        for (int count = 1; count <= 8; count++) {
            int pages = count;
            Consumer<SealedPages> wiped = y -> wipeHeadAndTree(y, pages);
            Model m = new Model(pages);
            CHECKS.dueRow("disk of zeros", Seen.diskAfter(pages, wiped), new int[m.size()]);
            SealedPages x = Seen.made(pages, wiped);
            CHECKS.due("seal of " + pages, x.seal(), nodes[pages]);
            CHECKS.dueRow("disk after seal", Seen.diskAfter(pages, wiped.andThen(SealedPages::seal)), m.disk);
            CHECKS.dueRow("root after seal", Checks.rootOf(x), m.root);
        }
        CHECKS.due("seal of 64", new SealedPages(64).seal(), 127);
    }

    private static void alterEveryFifthByte(SealedPages x) {
        for (int i = 8; i < 8 + 64 * 7; i += 5) {
            x.alter(i, i);
        }
    }

    private static void promise7SealTakesPagesAsTheyAre() {
        SealedPages x = new SealedPages(7);
        Model m = new Model(7);
        int[] draft = fillDraft(x, 2);
        alterEveryFifthByte(x);
        for (int i = 8; i < 8 + 64 * 7; i += 5) {
            m.alter(i, i);
        }
        CHECKS.due("seal", x.seal(), m.seal());
        CHECKS.dueRow("disk after seal", Seen.diskAfter(7, y -> { alterEveryFifthByte(y); y.seal(); }), m.disk);
        CHECKS.dueRow("root after seal", Checks.rootOf(x), m.root);
        CHECKS.dueRow("draft after seal", Checks.draftOf(x), draft);
        CHECKS.due("held after seal", x.held(), 7);
        CHECKS.due("read after seal", x.read(6), 0);
        CHECKS.dueRow("page after seal", Checks.draftOf(x), Arrays.copyOfRange(m.disk, 8 + 64 * 6, 72 + 64 * 6));
    }

    private static void promise24Told() {
        SealedPages x = new SealedPages(3);
        x.read(0);
        x.read(1);
        x.write(2);
        x.write(2);
        x.write(0);
        x.alter(8, 1);
        x.read(0);
        x.write(0);
        x.read(0);
        x.write(0);
        x.read(3);
        x.write(-1);
        x.fault(0);
        x.held();
        x.first();
        x.seal();
        int[] want = {3, 2, 3, 4};
        for (int what = 0; what < 4; what++) {
            CHECKS.due("told " + what, x.told(what), want[what]);
        }
        x.keep();
        x.read(0);
        x.back();
        x.open();
        CHECKS.due("told 1 is not given back", x.told(1), 3);
        for (int what : new int[] {-1, 4, 5, Integer.MIN_VALUE, Integer.MAX_VALUE}) {
            CHECKS.due("told " + what, x.told(what), -1);
        }
    }
}
