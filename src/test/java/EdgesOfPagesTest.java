import java.util.Arrays;
import java.util.function.Consumer;

/** Boundary cases of promises 1 a new object, 5 read, 6 write, 7 seal and 24 told, each in a test of its own. */
public final class EdgesOfPagesTest {
    private static final int LEAST = Integer.MIN_VALUE;
    private static final int MOST = Integer.MAX_VALUE;
    private static final int[] SIZES = {1, 3, 64};
    private static final Checks CHECKS = new Checks("EdgesOfPagesTest");

    public static void main(String[] args) {
        promise1BelowOneIsOne();
        promise1Above64Is64();
        promise1OneAndSixtyFourAndBetween();
        promise1AllBytesZeroAndSealed();
        promise5FirstAndLastPage();
        promise5TheDraftIsACopy();
        promise5ElseItsFaultAndTheDraftStays();
        promise5NoneWithoutSuchAPage();
        promise6FirstAndLastPage();
        promise6ThePageIsACopy();
        promise6OfTheSameBytes();
        promise6ElseItsFaultAndNothingChanges();
        promise6LeavesWhatIsBrokenBeside();
        promise6NoneWithoutSuchAPage();
        promise7CountsEveryNode();
        promise7OfASealedImageChangesNothing();
        promise7MendsHeadNodesAndRoot();
        promise7LeavesThePages();
        promise7LeavesDraftKeptAndCounts();
        promise24OfANewObject();
        promise24CountsReadsThatGaveAPage();
        promise24CountsWritesThatWroteOne();
        promise24CountsFaultsOfBoth();
        promise24OtherCallsDoNotCount();
        promise24NoneOfAnotherWhat();
        CHECKS.end();
    }

    // "of another number the nearest"
    private static void promise1BelowOneIsOne() {
        int[] want = Seen.after(1, x -> { });
        for (int pages : new int[] {0, -1, -2, -63, -64, -255, -256, LEAST + 1, LEAST}) {
            CHECKS.dueRow("new " + pages, Seen.after(pages, x -> { }), want);
            CHECKS.due("pages of new " + pages, new SealedPages(pages).told(0), 1);
        }
    }

    private static void promise1Above64Is64() {
        int[] want = Seen.after(64, x -> { });
        for (int pages : new int[] {65, 66, 127, 128, 255, 256, 257, 65537, MOST - 1, MOST}) {
            CHECKS.dueRow("new " + pages, Seen.after(pages, x -> { }), want);
            CHECKS.due("pages of new " + pages, new SealedPages(pages).told(0), 64);
        }
    }

    private static void promise1OneAndSixtyFourAndBetween() {
        for (int pages : new int[] {1, 2, 63, 64}) {
            SealedPages x = new SealedPages(pages);
            CHECKS.due("pages of new " + pages, x.told(0), pages);
            CHECKS.due("fault of the last page of " + pages, x.fault(pages - 1), 0);
            CHECKS.due("no page behind it of " + pages, x.fault(pages), -1);
        }
    }

    // "all bytes 0, sealed"
    private static void promise1AllBytesZeroAndSealed() {
        for (int pages = 1; pages <= 64; pages++) {
            int[] disk = Seen.diskAfter(pages, x -> { });
            CHECKS.dueRow("pages of new " + pages, Arrays.copyOfRange(disk, 8, 8 + 64 * pages), new int[64 * pages]);
            CHECKS.dueRow("disk of new " + pages, disk, new Model(pages).disk);
            CHECKS.due("held of new " + pages, new SealedPages(pages).held(), pages);
            CHECKS.due("first of new " + pages, new SealedPages(pages).first(), -1);
        }
    }

    private static void fillAll(SealedPages x, long seed) {
        for (int k = 0; k < 8; k++) {
            x.fill(k, seed * (k + 1));
        }
    }

    private static void promise5FirstAndLastPage() {
        for (int pages : SIZES) {
            for (int page : new int[] {0, pages - 1}) {
                SealedPages x = new SealedPages(pages);
                fillAll(x, 0x1f2e3d4c5b6a7988L);
                int[] want = Checks.draftOf(x);
                x.write(page);
                fillAll(x, 3L);
                CHECKS.due("read " + page + " of " + pages, x.read(page), 0);
                CHECKS.dueRow("draft after read " + page + " of " + pages, Checks.draftOf(x), want);
            }
        }
    }

    // "THE DRAFT is its bytes": as it was read, whatever becomes of the disk then
    private static void promise5TheDraftIsACopy() {
        SealedPages x = new SealedPages(2);
        x.read(0);
        x.alter(8, 255);
        CHECKS.due("draft after alter", x.draft(0), 0);
        x.alter(8, 255);
        x.put(0, 7);
        CHECKS.due("disk after put", x.disk(8), 0);
        CHECKS.due("held after put", x.held(), 2);
    }

    /** One byte altered for each fault that a way can have. */
    private static int[][] alteredAndFault(int pages, int page) {
        SealedPages x = new SealedPages(pages);
        int last = x.levels() - 1;
        int[][] rows = new int[3 + last][];
        rows[0] = new int[] {7, 1};
        rows[1] = new int[] {x.size() - 1, 2};
        rows[2] = new int[] {71 + 64 * page, 3};
        for (int level = 1; level <= last; level++) {
            rows[2 + level] = new int[] {x.node(level - 1, page >> (level - 1)) + 31, 3 + level};
        }
        return rows;
    }

    private static Consumer<SealedPages> busyThenAlter(int byteAt) {
        return x -> {
            Seen.busy(x);
            x.alter(byteAt, 64);
        };
    }

    private static void promise5ElseItsFaultAndTheDraftStays() {
        for (int pages : SIZES) {
            for (int page : new int[] {0, pages - 1}) {
                for (int[] row : alteredAndFault(pages, page)) {
                    Consumer<SealedPages> run = busyThenAlter(row[0]);
                    SealedPages x = Seen.made(pages, run);
                    int[] draft = Checks.draftOf(x);
                    int[] root = Checks.rootOf(x);
                    String name = "read " + page + " of " + pages + " with byte " + row[0];
                    CHECKS.due(name, x.read(page), row[1]);
                    CHECKS.dueRow("draft after " + name, Checks.draftOf(x), draft);
                    CHECKS.dueRow("root after " + name, Checks.rootOf(x), root);
                    CHECKS.dueRow("disk after " + name, Seen.diskAfter(pages, run.andThen(y -> y.read(page))),
                            Seen.diskAfter(pages, run));
                }
            }
        }
    }

    private static int[] noPageOf(int pages) {
        return new int[] {LEAST, LEAST + 1, -64, -1, pages, pages + 1, 64, 65, 256, MOST};
    }

    private static void promise5NoneWithoutSuchAPage() {
        for (int pages : SIZES) {
            for (int page : noPageOf(pages)) {
                CHECKS.refused("read " + page, pages, x -> x.read(page));
            }
        }
        CHECKS.leaves("read of no page with a wrong head", 3, busyThenAlter(0), x -> x.read(3), -1);
    }

    private static void promise6FirstAndLastPage() {
        for (int pages : SIZES) {
            for (int page : new int[] {0, pages - 1}) {
                Consumer<SealedPages> run = x -> {
                    fillAll(x, 0x0f1e2d3c4b5a6978L);
                    x.write(page);
                };
                Model m = new Model(pages);
                for (int k = 0; k < 8; k++) {
                    m.fill(k, 0x0f1e2d3c4b5a6978L * (k + 1));
                }
                m.write(page);
                String name = "write " + page + " of " + pages;
                CHECKS.due(name, Seen.answer(pages, y -> { }, y -> y.write(page)), 0);
                CHECKS.dueRow("disk after " + name, Seen.diskAfter(pages, run), m.disk);
                CHECKS.dueRow("root after " + name, Checks.rootOf(Seen.made(pages, run)), m.root);
                CHECKS.dueRow("draft after " + name, Checks.draftOf(Seen.made(pages, run)), m.draft);
                CHECKS.due("held after " + name, Seen.made(pages, run).held(), pages);
            }
        }
    }

    // "its bytes become those of THE DRAFT": as the draft was then
    private static void promise6ThePageIsACopy() {
        SealedPages x = new SealedPages(1);
        x.put(0, 5);
        x.write(0);
        x.put(0, 6);
        CHECKS.due("disk after put", x.disk(8), 5);
        CHECKS.due("fault after put", x.fault(0), 0);
        x.read(0);
        CHECKS.due("draft read again", x.draft(0), 5);
    }

    private static void promise6OfTheSameBytes() {
        int[] before = Seen.diskAfter(3, x -> { });
        CHECKS.dueRow("disk after write of zeros", Seen.diskAfter(3, x -> x.write(2)), before);
        SealedPages x = new SealedPages(3);
        int[] root = Checks.rootOf(x);
        CHECKS.due("write of zeros", x.write(2), 0);
        CHECKS.dueRow("root after write of zeros", Checks.rootOf(x), root);
        CHECKS.due("told 2 after write of zeros", x.told(2), 1);
    }

    private static void promise6ElseItsFaultAndNothingChanges() {
        for (int pages : SIZES) {
            for (int page : new int[] {0, pages - 1}) {
                for (int[] row : alteredAndFault(pages, page)) {
                    Consumer<SealedPages> run = busyThenAlter(row[0]);
                    SealedPages x = Seen.made(pages, run);
                    int[] draft = Checks.draftOf(x);
                    int[] root = Checks.rootOf(x);
                    String name = "write " + page + " of " + pages + " with byte " + row[0];
                    CHECKS.due(name, x.write(page), row[1]);
                    CHECKS.dueRow("draft after " + name, Checks.draftOf(x), draft);
                    CHECKS.dueRow("root after " + name, Checks.rootOf(x), root);
                    CHECKS.dueRow("disk after " + name, Seen.diskAfter(pages, run.andThen(y -> y.write(page))),
                            Seen.diskAfter(pages, run));
                }
            }
        }
    }

    // "its NODES on the WAY and the ROOT what they are by that": no other node is sealed with them
    private static void promise6LeavesWhatIsBrokenBeside() {
        int pages = 8;
        Consumer<SealedPages> run = x -> {
            x.alter(8 + 64 * 1, 1);
            x.alter(x.node(0, 3), 1);
            x.alter(x.node(1, 3), 1);
            x.put(0, 1);
        };
        // Page 0 has no broken node on its way; those of 2 and 3, and of 4 to 7, have.
        int[] before = {0, 3, 4, 4, 5, 5, 5, 5};
        for (int page = 0; page < pages; page++) {
            int wanted = before[page];
            CHECKS.due("fault " + page, Seen.made(pages, run).fault(page), wanted);
            int number = page;
            CHECKS.due("fault " + page + " after write 0",
                    Seen.answer(pages, run.andThen(x -> x.write(0)), x -> x.fault(number)), wanted);
        }
        int[] after = Seen.diskAfter(pages, run.andThen(x -> x.write(0)));
        int[] was = Seen.diskAfter(pages, run);
        SealedPages x = new SealedPages(pages);
        int end = x.node(0, 0);
        CHECKS.dueRow("the other pages", Arrays.copyOfRange(after, 72, end), Arrays.copyOfRange(was, 72, end));
        for (int level = 0; level < 3; level++) {
            int start = x.node(level, 1);
            int next = x.node(level + 1, 0);
            CHECKS.dueRow("the other nodes of level " + level, Arrays.copyOfRange(after, start, next),
                    Arrays.copyOfRange(was, start, next));
        }
    }

    private static void promise6NoneWithoutSuchAPage() {
        for (int pages : SIZES) {
            for (int page : noPageOf(pages)) {
                CHECKS.refused("write " + page, pages, x -> x.write(page));
            }
        }
        CHECKS.leaves("write of no page with a wrong head", 3, busyThenAlter(0), x -> x.write(3), -1);
    }

    // "how many NODES there are"
    private static void promise7CountsEveryNode() {
        int[] counts = {1, 3, 6, 7, 11, 12, 14, 15, 20, 21, 23, 24, 27, 28, 30, 31};
        for (int pages = 1; pages <= counts.length; pages++) {
            CHECKS.due("seal of " + pages, new SealedPages(pages).seal(), counts[pages - 1]);
        }
        int[][] large = {{17, 37}, {32, 63}, {33, 70}, {63, 126}, {64, 127}};
        for (int[] row : large) {
            CHECKS.due("seal of " + row[0], new SealedPages(row[0]).seal(), row[1]);
        }
    }

    private static void promise7OfASealedImageChangesNothing() {
        int[] counts = {1, 6, 127};
        for (int i = 0; i < SIZES.length; i++) {
            CHECKS.leaves("seal of a new image", SIZES[i], x -> { }, SealedPages::seal, counts[i]);
            CHECKS.leaves("seal of a sealed image", SIZES[i], Seen::busy, SealedPages::seal, counts[i]);
        }
    }

    // "The HEAD, all NODES and the ROOT become what they are if all is SEALED"
    private static void promise7MendsHeadNodesAndRoot() {
        for (int pages : new int[] {1, 2, 3, 5}) {
            int[] disk = Seen.diskAfter(pages, Seen::busy);
            int[] root = Checks.rootOf(Seen.made(pages, Seen::busy));
            Consumer<SealedPages> run = x -> {
                Seen.busy(x);
                for (int i = 0; i < 8; i++) {
                    x.alter(i, 255);
                }
                for (int i = 8 + 64 * pages; i < x.size() && i < 8 + 64 * pages + 64; i++) {
                    x.alter(i, 255);
                }
                x.carry(0, x.node(x.levels() - 1, 0), 32);
                x.seal();
            };
            CHECKS.dueRow("disk of " + pages + " after seal", Seen.diskAfter(pages, run), disk);
            CHECKS.dueRow("root of " + pages + " after seal", Checks.rootOf(Seen.made(pages, run)), root);
        }
        SealedPages old = Seen.made(3, Seen::busy);
        old.back();
        CHECKS.due("held of an old image", old.held(), 0);
        old.seal();
        CHECKS.due("held of an old image that is sealed", old.held(), 3);
    }

    // "the pages being as they are on the DISK"
    private static void promise7LeavesThePages() {
        for (int pages : SIZES) {
            Consumer<SealedPages> run = x -> {
                Seen.busy(x);
                x.alter(8, 255);
                x.alter(7 + 64 * pages, 255);
            };
            int[] before = Seen.diskAfter(pages, run);
            Model m = new Model(pages);
            System.arraycopy(before, 0, m.disk, 0, before.length);
            m.seal();
            Consumer<SealedPages> sealed = run.andThen(SealedPages::seal);
            CHECKS.dueRow("disk of " + pages + " after seal", Seen.diskAfter(pages, sealed), m.disk);
            CHECKS.dueRow("root of " + pages + " after seal", Checks.rootOf(Seen.made(pages, sealed)), m.root);
            CHECKS.due("held of " + pages + " after seal", Seen.made(pages, sealed).held(), pages);
        }
    }

    private static void promise7LeavesDraftKeptAndCounts() {
        Consumer<SealedPages> sealed = x -> {
            Seen.busy(x);
            x.alter(8, 255);
            x.seal();
        };
        SealedPages x = Seen.made(3, sealed);
        SealedPages unsealed = Seen.made(3, Seen::busy);
        CHECKS.dueRow("draft after seal", Checks.draftOf(x), Checks.draftOf(unsealed));
        for (int what = 0; what < 4; what++) {
            CHECKS.due("told " + what + " after seal", x.told(what), unsealed.told(what));
        }
        CHECKS.dueRow("what was kept, after seal", Seen.diskAfter(3, sealed.andThen(SealedPages::open)),
                Seen.diskAfter(3, y -> { Seen.busy(y); y.open(); }));
    }

    private static void dueTold(String when, SealedPages x, int pages, int given, int written, int faults) {
        int[] want = {pages, given, written, faults};
        for (int what = 0; what < 4; what++) {
            CHECKS.due("told " + what + " " + when, x.told(what), want[what]);
        }
    }

    private static void promise24OfANewObject() {
        dueTold("of new 1", new SealedPages(1), 1, 0, 0, 0);
        dueTold("of new 64", new SealedPages(64), 64, 0, 0, 0);
        dueTold("of new 0", new SealedPages(0), 1, 0, 0, 0);
        dueTold("of new 65", new SealedPages(65), 64, 0, 0, 0);
    }

    private static void promise24CountsReadsThatGaveAPage() {
        SealedPages x = new SealedPages(2);
        for (int i = 1; i <= 300; i++) {
            x.read(i % 2);
        }
        dueTold("after 300 reads", x, 2, 300, 0, 0);
        x.alter(8, 1);
        x.read(0);
        dueTold("after a read that gave none", x, 2, 300, 0, 1);
        x.read(1);
        dueTold("after a read beside that", x, 2, 301, 0, 1);
    }

    private static void promise24CountsWritesThatWroteOne() {
        SealedPages x = new SealedPages(2);
        for (int i = 1; i <= 300; i++) {
            x.write(i % 2);
        }
        dueTold("after 300 writes", x, 2, 0, 300, 0);
        x.alter(8, 1);
        x.write(0);
        dueTold("after a write that wrote none", x, 2, 0, 300, 1);
        x.write(1);
        dueTold("after a write beside that", x, 2, 0, 301, 1);
    }

    private static void promise24CountsFaultsOfBoth() {
        SealedPages x = new SealedPages(3);
        int[] altered = {8, x.node(0, 0), x.node(1, 0), x.node(2, 0), 0};
        for (int i = 0; i < altered.length; i++) {
            x.alter(altered[i], 1);
            x.read(0);
            dueTold("after read with fault", x, 3, 0, 0, 2 * i + 1);
            x.write(0);
            dueTold("after write with fault", x, 3, 0, 0, 2 * i + 2);
        }
    }

    private static void promise24OtherCallsDoNotCount() {
        SealedPages x = new SealedPages(3);
        x.read(3);
        x.write(3);
        x.read(-1);
        x.write(-1);
        x.fault(0);
        x.alter(8, 1);
        x.fault(0);
        x.held();
        x.first();
        x.proof(0);
        x.beside(0, 0, 0);
        x.keep();
        x.back();
        x.open();
        x.seal();
        x.told(1);
        x.told(3);
        dueTold("after other calls", x, 3, 0, 0, 0);
        x.read(0);
        x.write(0);
        x.alter(0, 1);
        x.read(0);
        x.back();
        x.open();
        dueTold("is not kept with the disk", x, 3, 1, 1, 1);
    }

    private static void promise24NoneOfAnotherWhat() {
        for (int what : new int[] {LEAST, LEAST + 3, -4, -1, 4, 5, 64, 256, 259, MOST}) {
            CHECKS.refused("told " + what, 3, x -> x.told(what));
        }
    }
}
