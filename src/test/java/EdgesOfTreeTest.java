import java.util.function.Consumer;

/** Boundary cases of promises 13 fault to 19 beside, each in a test of its own. */
public final class EdgesOfTreeTest {
    private static final int LEAST = Integer.MIN_VALUE;
    private static final int MOST = Integer.MAX_VALUE;
    private static final int[] SIZES = {1, 3, 64};
    private static final Checks CHECKS = new Checks("EdgesOfTreeTest");

    public static void main(String[] args) {
        promise13ZeroIfItHolds();
        promise13FirstAndLastFault();
        promise13NoneWithoutSuchAPage();
        promise14EveryPage();
        promise14NoPage();
        promise14AllButOne();
        promise14OneAlone();
        promise15NoneIfAllDo();
        promise15TheFirstPage();
        promise15TheLastPage();
        promise15TheLeastOfMany();
        promise16FewestAndMost();
        promise16OneMoreAboveEachPowerOfTwo();
        promise17FirstAndLastNode();
        promise17NoneWithoutSuchALevel();
        promise17NoneWithoutSuchANode();
        promise18OnePageHasNoneBeside();
        promise18ALastNodeAloneHasNoOther();
        promise18EveryPageOfFullTrees();
        promise18WhetherOrNotTheWayHolds();
        promise18NoneWithoutSuchAPage();
        promise19FirstAndLastNodeAndByte();
        promise19LevelsWithoutAnOtherAreLeftOut();
        promise19AsItIsOnTheDisk();
        promise19NoneWithoutSuchAPage();
        promise19NoneWithoutSuchANode();
        promise19NoneWithoutSuchAByte();
        CHECKS.end();
    }

    private static void promise13ZeroIfItHolds() {
        for (int pages : SIZES) {
            CHECKS.leaves("fault 0", pages, Seen::busy, x -> x.fault(0), 0);
            CHECKS.leaves("fault of the last", pages, Seen::busy, x -> x.fault(pages - 1), 0);
        }
    }

    private static void promise13FirstAndLastFault() {
        // The greatest fault is that of the last level: 3 more than its number.
        int[][] rows = {{1, 3}, {2, 4}, {3, 5}, {4, 5}, {5, 6}, {8, 6}, {9, 7}, {17, 8}, {33, 9}, {64, 9}};
        for (int[] row : rows) {
            int pages = row[0];
            SealedPages x = new SealedPages(pages);
            int byteBelow = x.levels() == 1 ? 8 : x.node(x.levels() - 2, 0);
            CHECKS.leaves("fault 0 by the last level", pages, y -> y.alter(byteBelow, 1), y -> y.fault(0), row[1]);
            CHECKS.leaves("fault of the last by the last level", pages, y -> y.alter(byteBelow, 1),
                    y -> y.fault(pages - 1), row[1]);
            CHECKS.leaves("fault 0 by the page", pages, y -> y.alter(8, 1), y -> y.fault(0), 3);
            CHECKS.leaves("fault 0 by the root", pages, y -> y.alter(y.size() - 1, 1), y -> y.fault(0), 2);
            CHECKS.leaves("fault 0 by the head", pages, y -> y.alter(0, 1), y -> y.fault(0), 1);
        }
    }

    private static int[] noPageOf(int pages) {
        return new int[] {LEAST, LEAST + 1, -64, -1, pages, pages + 1, 64, 65, 256, MOST};
    }

    private static void promise13NoneWithoutSuchAPage() {
        for (int pages : SIZES) {
            for (int page : noPageOf(pages)) {
                CHECKS.refused("fault " + page, pages, x -> x.fault(page));
            }
        }
        CHECKS.due("fault of no page with a wrong head", Seen.answer(3, x -> x.alter(0, 1), x -> x.fault(3)), -1);
        // 5 pages: number 5 would still find a node above it in level 1, where node 2 is.
        CHECKS.due("fault 5 of 5", Seen.answer(5, x -> { }, x -> x.fault(5)), -1);
    }

    private static void promise14EveryPage() {
        for (int pages = 1; pages <= 64; pages++) {
            CHECKS.due("held of new " + pages, new SealedPages(pages).held(), pages);
        }
        for (int pages : SIZES) {
            CHECKS.leaves("held", pages, Seen::busy, SealedPages::held, pages);
        }
    }

    private static void promise14NoPage() {
        for (int pages = 1; pages <= 64; pages++) {
            CHECKS.due("held with a wrong head", Seen.answer(pages, x -> x.alter(5, 1), SealedPages::held), 0);
            CHECKS.due("held with a wrong root",
                    Seen.answer(pages, x -> x.alter(x.size() - 32, 1), SealedPages::held), 0);
            int last = pages;
            Consumer<SealedPages> everyPage = x -> {
                for (int page = 0; page < last; page++) {
                    x.alter(8 + 64 * page + page, 1);
                }
            };
            CHECKS.due("held with every page altered", Seen.answer(pages, everyPage, SealedPages::held), 0);
        }
        CHECKS.leaves("held with a wrong head", 3, x -> x.alter(5, 1), SealedPages::held, 0);
    }

    private static void promise14AllButOne() {
        for (int page = 0; page < 64; page++) {
            int number = page;
            CHECKS.due("held but for " + page, Seen.answer(64, x -> x.alter(71 + 64 * number, 1), SealedPages::held), 63);
        }
    }

    private static void promise14OneAlone() {
        for (int alone = 0; alone < 64; alone++) {
            SealedPages x = new SealedPages(64);
            for (int page = 0; page < 64; page++) {
                if (page != alone) {
                    x.alter(8 + 64 * page, 1);
                }
            }
            CHECKS.due("held of " + alone + " alone", x.held(), 1);
            CHECKS.due("first but for " + alone, x.first(), alone == 0 ? 1 : 0);
        }
    }

    // "NONE if all do"
    private static void promise15NoneIfAllDo() {
        for (int pages = 1; pages <= 64; pages++) {
            CHECKS.due("first of new " + pages, new SealedPages(pages).first(), -1);
        }
        for (int pages : SIZES) {
            CHECKS.leaves("first", pages, Seen::busy, SealedPages::first, -1);
            CHECKS.leaves("first once sealed", pages, x -> { Seen.broken(x); x.seal(); }, SealedPages::first, -1);
        }
    }

    private static void promise15TheFirstPage() {
        for (int pages : SIZES) {
            CHECKS.leaves("first with page 0 altered", pages, x -> x.alter(8, 1), SealedPages::first, 0);
            CHECKS.leaves("first with a wrong head", pages, x -> x.alter(3, 1), SealedPages::first, 0);
            CHECKS.leaves("first with a wrong root", pages, x -> x.alter(x.size() - 1, 1), SealedPages::first, 0);
        }
    }

    private static void promise15TheLastPage() {
        for (int pages : SIZES) {
            CHECKS.leaves("first with the last altered", pages, Seen::broken, SealedPages::first, pages - 1);
        }
    }

    private static void promise15TheLeastOfMany() {
        for (int least = 0; least < 64; least++) {
            SealedPages x = new SealedPages(64);
            for (int page = 63; page >= least; page -= 7) {
                x.alter(8 + 64 * page, 1);
            }
            x.alter(8 + 64 * least, 2);
            CHECKS.due("first of many from " + least, x.first(), least);
        }
        SealedPages x = new SealedPages(64);
        x.alter(x.node(4, 2), 1);
        CHECKS.due("first below a node", x.first(), 32);
        CHECKS.due("held below a node", x.held(), 32);
        x.alter(8 + 64 * 31, 1);
        CHECKS.due("first ahead of that node", x.first(), 31);
        CHECKS.due("held ahead of that node", x.held(), 31);
    }

    private static void promise16FewestAndMost() {
        int[][] rows = {{LEAST, 1}, {0, 1}, {1, 1}, {64, 7}, {65, 7}, {MOST, 7}};
        for (int[] row : rows) {
            CHECKS.leaves("levels of new " + row[0], row[0], x -> { }, SealedPages::levels, row[1]);
        }
        CHECKS.leaves("levels with another head", 3, x -> x.alter(2, 255), SealedPages::levels, 3);
    }

    private static void promise16OneMoreAboveEachPowerOfTwo() {
        int[][] rows = {{2, 2}, {3, 3}, {4, 3}, {5, 4}, {8, 4}, {9, 5}, {16, 5}, {17, 6}, {32, 6}, {33, 7}, {63, 7}};
        for (int[] row : rows) {
            CHECKS.due("levels of " + row[0], new SealedPages(row[0]).levels(), row[1]);
        }
    }

    private static void promise17FirstAndLastNode() {
        int[][] rows = {{1, 0, 0, 72}, {2, 0, 0, 136}, {2, 0, 1, 168}, {2, 1, 0, 200}, {3, 0, 2, 264}, {3, 1, 0, 296},
            {3, 1, 1, 328}, {3, 2, 0, 360}, {64, 0, 0, 4104}, {64, 0, 63, 6120}, {64, 1, 0, 6152}, {64, 1, 31, 7144},
            {64, 5, 0, 8072}, {64, 5, 1, 8104}, {64, 6, 0, 8136}};
        for (int[] row : rows) {
            CHECKS.leaves("node " + row[1] + " " + row[2], row[0], Seen::busy, x -> x.node(row[1], row[2]), row[3]);
        }
        for (int pages = 1; pages <= 64; pages++) {
            SealedPages x = new SealedPages(pages);
            CHECKS.due("the last node of " + pages, x.node(x.levels() - 1, 0), x.size() - 32);
        }
    }

    private static void promise17NoneWithoutSuchALevel() {
        int[] levels = {1, 3, 7};
        for (int i = 0; i < SIZES.length; i++) {
            for (int level : new int[] {LEAST, LEAST + 1, -1, levels[i], levels[i] + 1, 7, 8, 32, 256, MOST}) {
                CHECKS.refused("node " + level + " 0", SIZES[i], x -> x.node(level, 0));
                CHECKS.refused("node " + level + " -1", SIZES[i], x -> x.node(level, -1));
            }
        }
    }

    private static void promise17NoneWithoutSuchANode() {
        int[][] widths = {{1}, {3, 2, 1}, {64, 32, 16, 8, 4, 2, 1}};
        for (int i = 0; i < SIZES.length; i++) {
            for (int level = 0; level < widths[i].length; level++) {
                int width = widths[i][level];
                int number = level;
                for (int k : new int[] {LEAST, LEAST + 1, -1, width, width + 1, 64, 1 << 27, 1 << 30, MOST}) {
                    CHECKS.due("node " + level + " " + k + " of " + SIZES[i],
                            Seen.answer(SIZES[i], Seen::busy, x -> x.node(number, k)), -1);
                }
            }
        }
        CHECKS.refused("node 2 1", 3, x -> x.node(2, 1));
        CHECKS.refused("node 0 3", 3, x -> x.node(0, 3));
    }

    private static void dueProofs(int pages, int... counts) {
        CHECKS.due("pages", counts.length, pages);
        for (int page = 0; page < pages; page++) {
            CHECKS.due("proof " + page + " of " + pages, new SealedPages(pages).proof(page), counts[page]);
        }
    }

    private static void promise18OnePageHasNoneBeside() {
        CHECKS.leaves("proof 0", 1, Seen::busy, x -> x.proof(0), 0);
    }

    // "the other NODE below the same one, if there is one"
    private static void promise18ALastNodeAloneHasNoOther() {
        dueProofs(3, 2, 2, 1);
        dueProofs(5, 3, 3, 3, 3, 1);
        dueProofs(6, 3, 3, 3, 3, 2, 2);
        dueProofs(7, 3, 3, 3, 3, 3, 3, 2);
        dueProofs(9, 4, 4, 4, 4, 4, 4, 4, 4, 1);
        dueProofs(11, 4, 4, 4, 4, 4, 4, 4, 4, 3, 3, 2);
        CHECKS.due("proof 32 of 33", new SealedPages(33).proof(32), 1);
        CHECKS.due("proof 31 of 33", new SealedPages(33).proof(31), 6);
        CHECKS.due("proof 62 of 63", new SealedPages(63).proof(62), 5);
        CHECKS.due("proof 61 of 63", new SealedPages(63).proof(61), 6);
    }

    // "for each LEVEL but the last one"
    private static void promise18EveryPageOfFullTrees() {
        for (int levels = 1; levels <= 7; levels++) {
            int pages = 1 << (levels - 1);
            for (int page = 0; page < pages; page++) {
                CHECKS.due("proof " + page + " of " + pages, new SealedPages(pages).proof(page), levels - 1);
            }
        }
    }

    private static void promise18WhetherOrNotTheWayHolds() {
        CHECKS.leaves("proof 0 with a wrong head", 3, x -> x.alter(0, 1), x -> x.proof(0), 2);
        CHECKS.leaves("proof 2 with an altered page", 3, Seen::broken, x -> x.proof(2), 1);
    }

    private static void promise18NoneWithoutSuchAPage() {
        for (int pages : SIZES) {
            for (int page : noPageOf(pages)) {
                CHECKS.refused("proof " + page, pages, x -> x.proof(page));
            }
        }
    }

    /** Byte i of node k beside a page is byte i of that node of that level, where the two are told apart. */
    private static void dueBeside(int pages, int page, int k, int level, int node) {
        SealedPages x = Seen.made(pages, Seen::busy);
        for (int i = 0; i < 32; i++) {
            String name = "beside " + page + " " + k + " " + i + " of " + pages;
            CHECKS.due(name, x.beside(page, k, i), x.disk(x.node(level, node) + i));
        }
    }

    // "Byte i of NODE k of that, k from 0 on, of LEVEL 0 first"
    private static void promise19FirstAndLastNodeAndByte() {
        dueBeside(2, 0, 0, 0, 1);
        dueBeside(2, 1, 0, 0, 0);
        dueBeside(3, 0, 0, 0, 1);
        dueBeside(3, 0, 1, 1, 1);
        dueBeside(64, 0, 0, 0, 1);
        dueBeside(64, 0, 5, 5, 1);
        dueBeside(64, 63, 0, 0, 62);
        dueBeside(64, 63, 5, 5, 0);
        for (int level = 0; level < 6; level++) {
            dueBeside(64, 42, level, level, (42 >> level) ^ 1);
        }
        int[] node = Checks.nodeOf(Seen.made(3, Seen::busy), 0, 1);
        CHECKS.leaves("beside 0 0 0", 3, Seen::busy, x -> x.beside(0, 0, 0), node[0]);
        CHECKS.leaves("beside 0 0 31", 3, Seen::busy, x -> x.beside(0, 0, 31), node[31]);
    }

    private static void promise19LevelsWithoutAnOtherAreLeftOut() {
        dueBeside(3, 2, 0, 1, 0);
        dueBeside(5, 4, 0, 2, 0);
        dueBeside(6, 4, 0, 0, 5);
        dueBeside(6, 4, 1, 2, 0);
        dueBeside(7, 6, 0, 1, 2);
        dueBeside(11, 10, 0, 1, 4);
        dueBeside(11, 10, 1, 3, 0);
        dueBeside(33, 32, 0, 5, 0);
        dueBeside(63, 62, 0, 1, 30);
    }

    private static void promise19AsItIsOnTheDisk() {
        SealedPages x = new SealedPages(3);
        int place = x.node(0, 1);
        int was = x.beside(0, 0, 31);
        x.alter(place + 31, 255);
        CHECKS.due("beside an altered node", x.beside(0, 0, 31), was ^ 255);
        CHECKS.due("the byte ahead of it", x.beside(0, 0, 30), x.disk(place + 30));
        x.alter(0, 1);
        CHECKS.due("beside with a wrong head", x.beside(0, 0, 31), was ^ 255);
        int page = x.beside(2, 0, 0);
        x.alter(8 + 64, 1);
        CHECKS.due("beside an altered page", x.beside(2, 0, 0), page);
    }

    private static void promise19NoneWithoutSuchAPage() {
        for (int pages : SIZES) {
            for (int page : noPageOf(pages)) {
                CHECKS.refused("beside " + page + " 0 0", pages, x -> x.beside(page, 0, 0));
            }
        }
    }

    private static void promise19NoneWithoutSuchANode() {
        int[][] rows = {{1, 0, 0}, {2, 0, 1}, {2, 1, 1}, {3, 0, 2}, {3, 2, 1}, {5, 4, 1}, {5, 0, 3}, {6, 5, 2},
            {33, 32, 1}, {33, 0, 6}, {64, 0, 6}, {64, 63, 6}};
        for (int[] row : rows) {
            for (int k : new int[] {LEAST, -1, row[2], row[2] + 1, 7, 32, 256, MOST}) {
                CHECKS.refused("beside " + row[1] + " " + k + " 0", row[0], x -> x.beside(row[1], k, 0));
            }
        }
    }

    private static void promise19NoneWithoutSuchAByte() {
        for (int i : new int[] {LEAST, LEAST + 31, -32, -1, 32, 33, 64, 256, MOST}) {
            CHECKS.refused("beside 0 0 " + i, 3, x -> x.beside(0, 0, i));
            CHECKS.refused("beside 0 1 " + i, 3, x -> x.beside(0, 1, i));
            CHECKS.refused("beside 0 0 " + i, 1, x -> x.beside(0, 0, i));
            CHECKS.refused("beside 63 5 " + i, 64, x -> x.beside(63, 5, i));
        }
    }
}
