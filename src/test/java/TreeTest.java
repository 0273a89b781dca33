/** Promises 13 fault, 14 held, 15 first, 16 levels, 17 node, 18 proof, 19 beside. */
public final class TreeTest {
    private static final Checks CHECKS = new Checks("TreeTest");

    public static void main(String[] args) {
        promise13EveryByteBroken();
        promise13FirstFaultFromAbove();
        promise13Refuses();
        promise14And15CountAndLeast();
        promise14And15AllBroken();
        promise16Levels();
        promise17Node();
        promise18Proof();
        promise18And19ShowThePageToWhoHasTheRoot();
        promise19Refuses();
        CHECKS.end();
    }

    /** Each byte of the disk by itself: the model tells every page's fault, the count and the least. */
    private static void promise13EveryByteBroken() {
        for (int pages : new int[] {1, 2, 3, 5, 6, 7}) {
            int size = new SealedPages(pages).size();
            for (int i = 0; i < size; i++) {
                SealedPages x = new SealedPages(pages);
                Model m = new Model(pages);
                int bit = 1 << i % 8;
                x.alter(i, bit);
                m.alter(i, bit);
                for (int page = 0; page < pages; page++) {
                    CHECKS.due("fault " + page + " of " + pages + ", byte " + i, x.fault(page), m.fault(page));
                }
                CHECKS.due("held of " + pages + ", byte " + i, x.held(), m.held());
                CHECKS.due("first of " + pages + ", byte " + i, x.first(), m.first());
                x.alter(i, bit);
                CHECKS.due("held of " + pages + ", byte " + i + " turned back", x.held(), pages);
            }
        }
    }

    private static void promise13FirstFaultFromAbove() {
        SealedPages x = new SealedPages(8);
        CHECKS.due("fault", x.fault(5), 0);
        x.alter(8 + 64 * 5, 1);
        CHECKS.due("page altered", x.fault(5), 3);
        x.alter(x.node(0, 5), 1);
        CHECKS.due("node of level 0 altered too", x.fault(5), 4);
        CHECKS.due("the page beside it", x.fault(4), 4);
        CHECKS.due("a page of another pair", x.fault(6), 0);
        x.alter(x.node(1, 2), 1);
        CHECKS.due("node of level 1 altered too", x.fault(5), 5);
        CHECKS.due("a page of another pair", x.fault(6), 5);
        x.alter(x.node(2, 1), 1);
        CHECKS.due("node of level 2 altered too", x.fault(5), 6);
        x.alter(x.node(3, 0), 1);
        CHECKS.due("node of level 3 altered too", x.fault(5), 2);
        x.alter(4, 1);
        CHECKS.due("head altered too", x.fault(5), 1);
    }

    private static void promise13Refuses() {
        SealedPages x = new SealedPages(5);
        for (int page : new int[] {-1, 5, 6, 7, 8, 64, Integer.MIN_VALUE, Integer.MAX_VALUE}) {
            CHECKS.due("fault " + page, x.fault(page), -1);
            CHECKS.due("proof " + page, x.proof(page), -1);
            CHECKS.due("beside " + page, x.beside(page, 0, 0), -1);
        }
    }

    private static void promise14And15CountAndLeast() {
        SealedPages x = new SealedPages(64);
        CHECKS.due("held", x.held(), 64);
        CHECKS.due("first", x.first(), -1);
        int broken = 0;
        for (int page = 63; page >= 0; page -= 3) {
            x.alter(8 + 64 * page + page, 1);
            broken++;
            CHECKS.due("held", x.held(), 64 - broken);
            CHECKS.due("first", x.first(), page);
        }
    }

    private static void promise14And15AllBroken() {
        SealedPages x = new SealedPages(3);
        x.alter(0, 1);
        CHECKS.due("held with a wrong head", x.held(), 0);
        CHECKS.due("first with a wrong head", x.first(), 0);
        x.alter(0, 1);
        x.alter(x.size() - 1, 1);
        CHECKS.due("held with a wrong root", x.held(), 0);
        CHECKS.due("first with a wrong root", x.first(), 0);
        x.seal();
        CHECKS.due("held sealed again", x.held(), 3);
        CHECKS.due("first sealed again", x.first(), -1);
    }

    private static void promise16Levels() {
        int[][] rows = {{1, 1}, {2, 2}, {3, 3}, {4, 3}, {5, 4}, {8, 4}, {9, 5}, {16, 5}, {17, 6}, {32, 6}, {33, 7},
            {63, 7}, {64, 7}};
        for (int[] row : rows) {
            CHECKS.due("levels of " + row[0], new SealedPages(row[0]).levels(), row[1]);
        }
    }

    private static void promise17Node() {
        for (int pages = 1; pages <= 64; pages++) {
            SealedPages x = new SealedPages(pages);
            int place = 8 + 64 * pages;
            int width = pages;
            for (int level = 0; level < x.levels(); level++) {
                for (int k = 0; k < width; k++) {
                    CHECKS.due("node " + level + " " + k + " of " + pages, x.node(level, k), place);
                    place += 32;
                }
                for (int k : new int[] {-1, width, width + 1, Integer.MIN_VALUE, Integer.MAX_VALUE}) {
                    CHECKS.due("node " + level + " " + k + " of " + pages, x.node(level, k), -1);
                }
                width = (width + 1) / 2;
            }
            CHECKS.due("end of the tree", place, x.size());
            for (int level : new int[] {-1, x.levels(), 7, 8, Integer.MIN_VALUE, Integer.MAX_VALUE}) {
                CHECKS.due("node " + level + " 0 of " + pages, x.node(level, 0), -1);
            }
        }
    }

    private static void promise18Proof() {
        int[][] rows = {{1, 0, 0}, {2, 0, 1}, {2, 1, 1}, {3, 0, 2}, {3, 2, 1}, {4, 3, 2}, {5, 0, 3}, {5, 4, 1},
            {6, 5, 2}, {7, 6, 2}, {7, 5, 3}, {33, 32, 1}, {33, 0, 6}, {64, 0, 6}, {64, 63, 6}, {9, 8, 1}};
        for (int[] row : rows) {
            CHECKS.due("proof " + row[1] + " of " + row[0], new SealedPages(row[0]).proof(row[1]), row[2]);
        }
        SealedPages broken = new SealedPages(5);
        broken.alter(0, 1);
        CHECKS.due("proof of a way that does not hold", broken.proof(0), 3);
    }

    private static int[] besideRow(SealedPages x, int page, int k) {
        int[] row = new int[32];
        for (int i = 0; i < 32; i++) {
            row[i] = x.beside(page, k, i);
        }
        return row;
    }

    /** From the page and the nodes beside its way alone, the root comes out. */
    private static void promise18And19ShowThePageToWhoHasTheRoot() {
        for (int pages : new int[] {1, 2, 3, 4, 5, 6, 7, 11, 33, 64}) {
            for (int page = 0; page < pages; page++) {
                dueRootByPage(pages, page);
            }
        }
        SealedPages altered = new SealedPages(2);
        int was = altered.alter(altered.node(0, 1) + 31, 3);
        CHECKS.due("beside as it is on the disk", altered.beside(0, 0, 31), was ^ 3);
    }

    private static void dueRootByPage(int pages, int page) {
        SealedPages x = new SealedPages(pages);
        for (int written = 0; written < pages; written++) {
            x.put(written, written + 1);
            x.write(written);
        }
        x.read(page);
        int[] node = Checks.sha(Checks.join(new int[] {0, page}, Checks.draftOf(x)));
        int width = pages;
        int used = 0;
        int level = 1;
        for (int k = page; width > 1; k /= 2) {
            int[] start = {level, k / 2};
            if (k % 2 == 1) {
                node = Checks.sha(Checks.join(start, besideRow(x, page, used++), node));
            } else if (k + 1 < width) {
                node = Checks.sha(Checks.join(start, node, besideRow(x, page, used++)));
            } else {
                node = Checks.sha(Checks.join(start, node));
            }
            width = (width + 1) / 2;
            level++;
        }
        CHECKS.due("proof " + page + " of " + pages, x.proof(page), used);
        int[] head = {83, 73, pages, 64, 0, 0, 0, 0};
        CHECKS.dueRow("root by page " + page, Checks.rootOf(x), Checks.sha(Checks.join(head, node)));
    }

    private static void promise19Refuses() {
        SealedPages x = new SealedPages(5);
        for (int page = 0; page < 5; page++) {
            for (int k : new int[] {-1, x.proof(page), 7, Integer.MIN_VALUE, Integer.MAX_VALUE}) {
                CHECKS.due("beside " + page + " " + k, x.beside(page, k, 0), -1);
            }
            for (int i : new int[] {-1, 32, 33, Integer.MIN_VALUE, Integer.MAX_VALUE}) {
                CHECKS.due("beside " + page + " 0 " + i, x.beside(page, 0, i), -1);
            }
        }
    }
}
