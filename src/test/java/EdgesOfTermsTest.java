import java.util.Arrays;
import java.util.function.Consumer;

/** The boundary cases that the document's Terms name, each in a test of its own. */
public final class EdgesOfTermsTest {
    private static final Checks CHECKS = new Checks("EdgesOfTermsTest");

    public static void main(String[] args) {
        draftTakesTheLowestEightBits();
        diskTakesTheLowestEightBits();
        noneIsBelowEveryByte();
        hashOfTheEmptyRow();
        hashPutsTheFirstByteHighest();
        hashWordsWrap();
        rowIsLengthenedByAsFewZerosAsCanBe();
        lengthIsToldInBitsTheHighestByteFirst();
        diskIsHeadThenPagesThenTree();
        headTellsEveryNumberOfPages();
        halfAOneMoreCountsAsOne();
        aLevelOfOneNodeIsTheLast();
        nodeOfLevel0TellsItsNumberAndPage();
        nodeAboveTwoTellsBoth();
        nodeAboveOneTellsThatAlone();
        rootTellsHeadAndLastNode();
        nothingElseChangesTheRoot();
        wayOfEveryPageByEveryByte();
        wayOfFirstAndLastPageOfLargeImages();
        faultIsTheFirstFromAbove();
        faultIsThreeMoreThanTheLevel();
        headFaultGoesAheadOfRootFault();
        anotherPagesNumberDoesNotHold();
        draftIsZeroAtFirst();
        theLastOf512CallsIsAsTheFirst();
        CHECKS.end();
    }

    // "of a number more than its lowest eight bits counts for nothing where a byte is wanted"
    private static void draftTakesTheLowestEightBits() {
        int[][] rows = {{255, 255}, {256, 0}, {257, 1}, {511, 255}, {65536, 0}, {-1, 255}, {-128, 128}, {-129, 127},
            {-256, 0}, {-257, 255}, {Integer.MIN_VALUE, 0}, {Integer.MAX_VALUE, 255}};
        for (int[] row : rows) {
            SealedPages x = new SealedPages(1);
            x.put(7, row[0]);
            CHECKS.due("draft after put " + row[0], x.draft(7), row[1]);
            CHECKS.due("put tells " + row[0] + " as a byte", x.put(7, 0), row[1]);
            x.put(7, row[0]);
            x.write(0);
            CHECKS.due("disk after put " + row[0], x.disk(15), row[1]);
        }
    }

    private static void diskTakesTheLowestEightBits() {
        int[][] rows = {{255, 83 ^ 255}, {256, 83}, {257, 82}, {65536, 83}, {-1, 83 ^ 255}, {-128, 83 ^ 128},
            {-129, 83 ^ 127}, {-256, 83}, {Integer.MIN_VALUE, 83}, {Integer.MAX_VALUE, 83 ^ 255}};
        for (int[] row : rows) {
            SealedPages x = new SealedPages(1);
            CHECKS.due("alter 0 " + row[0], x.alter(0, row[0]), 83);
            CHECKS.due("disk after alter 0 " + row[0], x.disk(0), row[1]);
            CHECKS.due("fault after alter 0 " + row[0], x.fault(0), row[1] == 83 ? 0 : 1);
        }
    }

    // "NONE is what a refused call answers"
    private static void noneIsBelowEveryByte() {
        CHECKS.due("NONE", SealedPages.NONE, -1);
    }

    private static SealedPages withDraft(int... bytes) {
        SealedPages x = new SealedPages(1);
        for (int i = 0; i < bytes.length; i++) {
            x.put(i, bytes[i]);
        }
        return x;
    }

    private static void dueHash(SealedPages x, int n, String want) {
        int[] bytes = Checks.bytesOf(want);
        CHECKS.due("bytes of " + want, bytes.length, 32);
        for (int i = 0; i < 32; i++) {
            CHECKS.due("hash " + n + " " + i, x.hash(n, i), bytes[i]);
        }
    }

    private static void hashOfTheEmptyRow() {
        String want = "e3b0c44298fc1c149afbf4c8996fb92427ae41e4649b934ca495991b7852b855";
        dueHash(new SealedPages(1), 0, want);
        dueHash(withDraft(200, 100, 50), 0, want);
    }

    // "bytes make words with the first byte highest"
    private static void hashPutsTheFirstByteHighest() {
        dueHash(withDraft('a', 'b', 'c'), 3, "ba7816bf8f01cfea414140de5dae2223b00361a396177a9cb410ff61f20015ad");
        dueHash(withDraft(128, 0, 0, 1), 4, "c84a46569db0a0c93dd1210447e17ed90dd4289c3b6f0cef10d35bfd0984bb9c");
    }

    // "Words have 32 bits and wrap"
    private static void hashWordsWrap() {
        int[] row = new int[64];
        Arrays.fill(row, 255);
        dueHash(withDraft(row), 64, "8667e718294e9e0df1d30600ba3eeb201f764aad2dad72748643e4a285e1d1f7");
    }

    // "as few bytes 0 as can be so that 8 bytes less than a multiple of 64 are there"
    private static void rowIsLengthenedByAsFewZerosAsCanBe() {
        int[] row = new int[64];
        Arrays.fill(row, 'a');
        SealedPages x = withDraft(row);
        dueHash(x, 54, "a3f01b6939256127582ac8ae9fb47a382a244680806a3f613a118851c1ca1d47");
        dueHash(x, 55, "9f4390f8d30c2dd92ec9f095b65e2b9ae9b0a925a5258e241c9f1e910f734318");
        dueHash(x, 56, "b35439a4ac6f0948b6d6f9e3c6af0f5f590ce20f1bde7090ef7970686ec6738a");
        dueHash(x, 57, "f13b2d724659eb3bf47f2dd6af1accc87b81f09f59f2b75e5c0bed6589dfe8c6");
        dueHash(x, 63, "7d3e74a05d7db15bce4ad9ec0658ea98e3f06eeecf16b4c6fff2da457ddc2f34");
        dueHash(x, 64, "ffe054fe7ae0cb6dc65c3af9b61d5209f439851db43d0ba5997337df154668eb");
    }

    // "how many bits the row had, the highest byte first": 32 bytes are the first whose bits fill two bytes
    private static void lengthIsToldInBitsTheHighestByteFirst() {
        int[] row = new int[64];
        Arrays.fill(row, 'a');
        SealedPages x = withDraft(row);
        dueHash(x, 31, "61c60b487d1a921e0bcc9bf853dda0fb159b30bf57b2e2d2c753b00be15b5a09");
        dueHash(x, 32, "3ba3f5f43b92602683c19aee62a20342b084dd5971ddd33808d81a328879a547");
        dueHash(x, 33, "852785c805c77e71a22340a54e9d95933ed49121e7d2bf3c2d358854bc1359ea");
    }

    // "a HEAD of 8 bytes, then PAGES of 64 bytes, numbered from 0 (N, 1 to 64 of them), then the TREE"
    private static void diskIsHeadThenPagesThenTree() {
        for (int pages = 1; pages <= 64; pages++) {
            SealedPages x = new SealedPages(pages);
            for (int page = 0; page < pages; page++) {
                x.put(0, page + 1);
                x.put(63, page + 101);
                x.write(page);
            }
            for (int page = 0; page < pages; page++) {
                CHECKS.due("first byte of " + page + " of " + pages, x.disk(8 + 64 * page), page + 1);
                CHECKS.due("last byte of " + page + " of " + pages, x.disk(71 + 64 * page), page + 101);
            }
            CHECKS.due("the tree of " + pages, x.node(0, 0), 8 + 64 * pages);
        }
    }

    // "HEAD: 83, 73, the number N, 64, and four bytes 0"
    private static void headTellsEveryNumberOfPages() {
        for (int pages = 1; pages <= 64; pages++) {
            SealedPages x = new SealedPages(pages);
            int[] head = {83, 73, pages, 64, 0, 0, 0, 0};
            for (int i = 0; i < 8; i++) {
                CHECKS.due("head of " + pages + " byte " + i, x.disk(i), head[i]);
            }
        }
    }

    private static void dueWidths(int pages, int... widths) {
        SealedPages x = new SealedPages(pages);
        int place = 8 + 64 * pages;
        CHECKS.due("levels of " + pages, x.levels(), widths.length);
        for (int level = 0; level < widths.length; level++) {
            CHECKS.due("first of level " + level + " of " + pages, x.node(level, 0), place);
            place += 32 * (widths[level] - 1);
            CHECKS.due("last of level " + level + " of " + pages, x.node(level, widths[level] - 1), place);
            CHECKS.due("none of level " + level + " of " + pages, x.node(level, widths[level]), -1);
            place += 32;
        }
        CHECKS.due("size of " + pages, x.size(), place);
        CHECKS.due("seal of " + pages, x.seal(), Arrays.stream(widths).sum());
    }

    // "half as many as the one ahead of it, half a one more counting as one"
    private static void halfAOneMoreCountsAsOne() {
        dueWidths(3, 3, 2, 1);
        dueWidths(5, 5, 3, 2, 1);
        dueWidths(6, 6, 3, 2, 1);
        dueWidths(7, 7, 4, 2, 1);
        dueWidths(9, 9, 5, 3, 2, 1);
        dueWidths(10, 10, 5, 3, 2, 1);
        dueWidths(11, 11, 6, 3, 2, 1);
        dueWidths(13, 13, 7, 4, 2, 1);
        dueWidths(17, 17, 9, 5, 3, 2, 1);
        dueWidths(33, 33, 17, 9, 5, 3, 2, 1);
        dueWidths(34, 34, 17, 9, 5, 3, 2, 1);
        dueWidths(43, 43, 22, 11, 6, 3, 2, 1);
        dueWidths(63, 63, 32, 16, 8, 4, 2, 1);
        for (int pages = 1; pages <= 64; pages++) {
            int levels = 1;
            while (1 << (levels - 1) < pages) {
                levels++;
            }
            int[] widths = new int[levels];
            for (int level = 0; level < levels; level++) {
                widths[level] = (int) Math.ceil(pages / (double) (1 << level));
            }
            dueWidths(pages, widths);
        }
    }

    // "until a LEVEL has one NODE"
    private static void aLevelOfOneNodeIsTheLast() {
        dueWidths(1, 1);
        dueWidths(2, 2, 1);
        dueWidths(4, 4, 2, 1);
        dueWidths(8, 8, 4, 2, 1);
        dueWidths(16, 16, 8, 4, 2, 1);
        dueWidths(32, 32, 16, 8, 4, 2, 1);
        dueWidths(64, 64, 32, 16, 8, 4, 2, 1);
    }

    private static int[] pageOf(int page) {
        int[] bytes = new int[64];
        for (int i = 0; i < 8; i++) {
            bytes[i] = page + 1;
            bytes[56 + i] = 255 - page;
        }
        return bytes;
    }

    /** Every page another, so that no two nodes are alike but by mistake. */
    private static SealedPages withPages(int pages) {
        SealedPages x = new SealedPages(pages);
        for (int page = 0; page < pages; page++) {
            x.fill(0, 0x0101010101010101L * (page + 1));
            x.fill(7, 0x0101010101010101L * (255 - page));
            x.write(page);
        }
        return x;
    }

    // "of LEVEL 0 the HASH of a byte 0, a byte that is the number of its PAGE, and the PAGE's 64 bytes"
    private static void nodeOfLevel0TellsItsNumberAndPage() {
        int[][] rows = {{1, 0}, {2, 0}, {2, 1}, {5, 4}, {64, 0}, {64, 1}, {64, 32}, {64, 63}};
        for (int[] row : rows) {
            int[] want = Checks.sha(Checks.join(new int[] {0, row[1]}, pageOf(row[1])));
            CHECKS.dueRow("node 0 " + row[1] + " of " + row[0], Checks.nodeOf(withPages(row[0]), 0, row[1]), want);
        }
    }

    private static void dueAbove(int pages, int level, int k, int nodesBelow) {
        SealedPages x = withPages(pages);
        int[] row = Checks.join(new int[] {level, k}, Checks.nodeOf(x, level - 1, 2 * k));
        if (nodesBelow == 2) {
            row = Checks.join(row, Checks.nodeOf(x, level - 1, 2 * k + 1));
        }
        CHECKS.dueRow("node " + level + " " + k + " of " + pages, Checks.nodeOf(x, level, k), Checks.sha(row));
    }

    // "the 32 bytes of the one or two NODES below it (NODE k of a LEVEL is above 2 k and, if there is one, 2 k + 1)"
    private static void nodeAboveTwoTellsBoth() {
        dueAbove(2, 1, 0, 2);
        dueAbove(3, 1, 0, 2);
        dueAbove(3, 2, 0, 2);
        dueAbove(6, 1, 2, 2);
        dueAbove(33, 6, 0, 2);
        dueAbove(64, 1, 31, 2);
        dueAbove(64, 5, 1, 2);
        dueAbove(64, 6, 0, 2);
    }

    private static void nodeAboveOneTellsThatAlone() {
        dueAbove(3, 1, 1, 1);
        dueAbove(5, 1, 2, 1);
        dueAbove(5, 2, 1, 1);
        dueAbove(6, 2, 1, 1);
        dueAbove(33, 1, 16, 1);
        dueAbove(33, 5, 1, 1);
        dueAbove(63, 1, 31, 1);
    }

    // "THE ROOT is the HASH of the HEAD, and of the NODE of the last LEVEL behind it"
    private static void rootTellsHeadAndLastNode() {
        for (int pages : new int[] {1, 2, 3, 5, 33, 63, 64}) {
            SealedPages x = withPages(pages);
            int[] head = {83, 73, pages, 64, 0, 0, 0, 0};
            int[] last = Checks.nodeOf(x, x.levels() - 1, 0);
            CHECKS.dueRow("root of " + pages, Checks.rootOf(x), Checks.sha(Checks.join(head, last)));
        }
    }

    private static void rootStays(String call, Consumer<SealedPages> made) {
        for (Consumer<SealedPages> run : Arrays.<Consumer<SealedPages>>asList(Seen::busy, Seen::broken)) {
            int[] before = Checks.rootOf(Seen.made(3, run));
            CHECKS.dueRow("root after " + call, Checks.rootOf(Seen.made(3, run.andThen(made))), before);
        }
    }

    // "it is kept outside the DISK: nothing but seal(), write() and open() changes it"
    private static void nothingElseChangesTheRoot() {
        rootStays("put and fill", x -> { x.put(0, 9); x.fill(7, 9L); });
        rootStays("read", x -> { x.read(0); x.read(2); });
        rootStays("alter of the last node", x -> x.alter(x.size() - 1, 1));
        rootStays("alter of the head", x -> x.alter(0, 1));
        rootStays("carry over all", x -> x.carry(0, 1, x.size() - 1));
        rootStays("keep", SealedPages::keep);
        rootStays("back", SealedPages::back);
        rootStays("keep, then back", x -> { x.alter(8, 1); x.keep(); x.alter(8, 3); x.back(); });
        rootStays("looking", x -> { x.held(); x.first(); x.fault(0); x.hash(64, 0); x.proof(0); x.beside(0, 0, 0); });
        rootStays("write of no page", x -> { x.write(-1); x.write(3); });
        rootStays("write that tells a fault", x -> { x.alter(4, 1); x.write(0); });
    }

    /** The fault of a page where one byte of a sealed image is altered, by the words of the document. */
    private static int faultByByte(SealedPages x, int page, int byteAt) {
        if (byteAt < 8) {
            return 1;
        }
        if (byteAt >= 8 + 64 * page && byteAt < 72 + 64 * page) {
            return 3;
        }
        int last = x.levels() - 1;
        if (byteAt >= x.node(last, 0)) {
            return 2;
        }
        for (int level = 0; level < last; level++) {
            int above = page >> (level + 1);
            for (int k = 2 * above; k <= 2 * above + 1; k++) {
                int start = x.node(level, k);
                if (start >= 0 && byteAt >= start && byteAt < start + 32) {
                    return 3 + level + 1;
                }
            }
        }
        return 0;
    }

    private static void dueFaultByByte(int pages, int page, int byteAt) {
        SealedPages x = new SealedPages(pages);
        int want = faultByByte(x, page, byteAt);
        x.alter(byteAt, 1 << byteAt % 8);
        CHECKS.due("fault " + page + " of " + pages + " with byte " + byteAt, x.fault(page), want);
    }

    // "It HOLDS if the HEAD is as told, the ROOT is the HASH of HEAD and last NODE, and each NODE of it
    // (but those others) is what it is told to be by the bytes on the DISK."
    private static void wayOfEveryPageByEveryByte() {
        for (int pages : new int[] {1, 2, 3, 4, 5, 6, 7}) {
            int size = new SealedPages(pages).size();
            for (int page = 0; page < pages; page++) {
                for (int byteAt = 0; byteAt < size; byteAt++) {
                    dueFaultByByte(pages, page, byteAt);
                }
            }
        }
    }

    private static void wayOfFirstAndLastPageOfLargeImages() {
        for (int pages : new int[] {33, 63, 64}) {
            int size = new SealedPages(pages).size();
            for (int page : new int[] {0, 31, 32, pages - 1}) {
                for (int start = 8; start < size; start += 32) {
                    dueFaultByByte(pages, page, start);
                    dueFaultByByte(pages, page, start + 31);
                }
            }
        }
    }

    // "its FAULT is the first of these from above": of the faults below it none is told
    private static void faultIsTheFirstFromAbove() {
        int[] faults = {3, 4, 5, 6, 2, 1};
        for (int set = 0; set < 64; set++) {
            SealedPages x = new SealedPages(5);
            int[] places = {8 + 64 * 2, x.node(0, 2), x.node(1, 1), x.node(2, 0), x.node(3, 0), 6};
            int want = 0;
            for (int i = 0; i < places.length; i++) {
                if ((set >> i & 1) == 1) {
                    x.alter(places[i], 16);
                    want = faults[i];
                }
            }
            CHECKS.due("fault with set " + set, x.fault(2), want);
            CHECKS.due("read with set " + set, x.read(2), want);
            CHECKS.due("write with set " + set, x.write(2), want);
        }
    }

    // "from the last one down to 0 .. 3 more than the LEVEL's number"
    private static void faultIsThreeMoreThanTheLevel() {
        int[] was = Seen.diskAfter(64, x -> { });
        int[] wanted = Seen.diskAfter(64, x -> { x.put(0, 1); x.write(63); });
        for (int level = 0; level <= 7; level++) {
            SealedPages x = new SealedPages(64);
            x.alter(8 + 64 * 63, 1);
            for (int below = 0; below < level; below++) {
                Checks.lay(x, x.node(below, 63 >> below), 32, was, wanted);
            }
            CHECKS.due("fault 63 where all below " + level + " fits", x.fault(63), level < 7 ? 3 + level : 2);
            CHECKS.due("held where all below " + level + " fits", x.held(), level < 7 ? 64 - (1 << level) : 0);
            CHECKS.due("first where all below " + level + " fits", x.first(), level < 7 ? 64 - (1 << level) : 0);
        }
    }

    // "1 the HEAD is not as told, 2 the ROOT is another HASH"
    private static void headFaultGoesAheadOfRootFault() {
        for (int i = 0; i < 8; i++) {
            SealedPages x = new SealedPages(1);
            x.alter(i, 1);
            CHECKS.due("fault with head byte " + i, x.fault(0), 1);
            x.alter(x.size() - 1, 1);
            CHECKS.due("fault with head byte " + i + " and the last node", x.fault(0), 1);
            x.alter(i, 1);
            CHECKS.due("fault with the last node", x.fault(0), 2);
        }
        SealedPages kept = new SealedPages(2);
        kept.alter(7, 1);
        kept.keep();
        kept.alter(7, 1);
        kept.open();
        CHECKS.due("a wrong head that was kept", kept.fault(1), 1);
    }

    // A node tells its number: what fits at one place does not at another.
    private static void anotherPagesNumberDoesNotHold() {
        SealedPages x = new SealedPages(1);
        int[] here = Checks.nodeOf(new SealedPages(2), 0, 0);
        int[] there = Checks.nodeOf(new SealedPages(2), 0, 1);
        CHECKS.due("nodes of like pages differ", Arrays.equals(here, there) ? 0 : 1, 1);
        CHECKS.dueRow("page 0 of another image", Checks.nodeOf(x, 0, 0), here);
        SealedPages carried = new SealedPages(4);
        carried.carry(carried.node(0, 0), carried.node(0, 1), 32);
        CHECKS.due("node 0 laid over node 1", carried.fault(1), 4);
        carried.carry(carried.node(1, 0), carried.node(1, 1), 32);
        CHECKS.due("node 0 of level 1 laid over node 1", carried.fault(3), 5);
    }

    // "THE DRAFT is a row of 64 bytes, 0 at first"
    private static void draftIsZeroAtFirst() {
        for (int pages : new int[] {0, 1, 64, 65}) {
            CHECKS.dueRow("draft of new " + pages, Checks.draftOf(new SealedPages(pages)), new int[64]);
        }
    }

    // "An object is used for at most 512 calls after it has been made"
    private static void theLastOf512CallsIsAsTheFirst() {
        SealedPages writes = new SealedPages(64);
        for (int call = 1; call < 512; call++) {
            CHECKS.due("write as call " + call, writes.write(call % 64), 0);
        }
        CHECKS.due("told 2 as call 512", writes.told(2), 511);
        SealedPages looks = new SealedPages(64);
        for (int call = 1; call <= 512; call++) {
            CHECKS.due("held as call " + call, looks.held(), 64);
        }
        SealedPages puts = new SealedPages(1);
        for (int call = 1; call <= 512; call++) {
            CHECKS.due("put as call " + call, puts.put(63, call), (call - 1) & 255);
        }
    }
}
