import java.util.function.Consumer;

/** Promises 8 size, 9 disk, 10 alter, 11 carry, 12 root, 20 keep, 21 back, 22 open. */
public final class DiskTest {
    private static final Checks CHECKS = new Checks("DiskTest");

    public static void main(String[] args) {
        promise8Size();
        promise9Disk();
        promise10Alter();
        promise11CarryOverlapping();
        promise11Refuses();
        promise12Root();
        promise12RootStaysOutside();
        promise20KeepsOneAtATime();
        promise21BackLeavesTheRoot();
        promise22OpenBringsTheRoot();
        promise21And22NothingKept();
        CHECKS.end();
    }

    private static void promise8Size() {
        int[][] rows = {{1, 104}, {2, 232}, {3, 392}, {4, 488}, {5, 680}, {33, 4360}, {63, 8072}, {64, 8168}};
        for (int[] row : rows) {
            CHECKS.due("size of " + row[0], new SealedPages(row[0]).size(), row[1]);
        }
    }

    private static void promise9Disk() {
        SealedPages x = new SealedPages(9);
        int[] head = {83, 73, 9, 64, 0, 0, 0, 0};
        for (int i = 0; i < 8; i++) {
            CHECKS.due("disk " + i, x.disk(i), head[i]);
        }
        x.put(0, 5);
        x.put(63, 6);
        x.write(8);
        CHECKS.due("first byte of the last page", x.disk(8 + 64 * 8), 5);
        CHECKS.due("last byte of the last page", x.disk(7 + 64 * 9), 6);
        CHECKS.due("last byte", x.disk(x.size() - 1) >= 0 ? 1 : 0, 1);
        for (int i : new int[] {-1, x.size(), x.size() + 1, Integer.MIN_VALUE, Integer.MAX_VALUE}) {
            CHECKS.due("disk " + i, x.disk(i), -1);
        }
    }

    private static int bitsFor(int i) {
        int[] bits = {1, 128, 255, 256, -1, 0, 511, Integer.MIN_VALUE, Integer.MAX_VALUE, 0x55aa};
        return bits[i % bits.length];
    }

    private static void alterAll(SealedPages x) {
        for (int i = 0; i < 232; i++) {
            x.alter(i, bitsFor(i));
        }
    }

    private static void promise10Alter() {
        SealedPages x = new SealedPages(2);
        int[] want = new Model(2).disk;
        for (int i = 0; i < want.length; i++) {
            int v = bitsFor(i);
            CHECKS.due("alter " + i + " " + v, x.alter(i, v), want[i]);
            want[i] = (want[i] ^ v) & 255;
            CHECKS.due("disk after alter " + i, x.disk(i), want[i]);
        }
        for (int i : new int[] {-1, 232, Integer.MIN_VALUE, Integer.MAX_VALUE}) {
            CHECKS.due("alter " + i, x.alter(i, 255), -1);
        }
        // No more than 200 looks, so that they stay within the 512 calls with the alters.
        for (int start = 0; start < want.length; start += 200) {
            SealedPages y = Seen.made(2, DiskTest::alterAll);
            for (int i = start; i < Math.min(want.length, start + 200); i++) {
                CHECKS.due("disk " + i + " after alters", y.disk(i), want[i]);
            }
        }
        CHECKS.dueRow("root after alters", Checks.rootOf(Seen.made(2, DiskTest::alterAll)), new Model(2).root);
    }

    private static void alterPages(SealedPages x) {
        for (int i = 8; i < 136; i++) {
            x.alter(i, i);
        }
    }

    private static void promise11CarryOverlapping() {
        int[][] rows = {{0, 0, 232}, {0, 5, 200}, {5, 0, 200}, {8, 72, 64}, {72, 8, 64}, {231, 0, 1}, {0, 231, 1},
            {10, 11, 50}, {11, 10, 50}, {0, 1, 231}, {1, 0, 231}, {100, 30, 0}, {232, 232, 0}, {232, 0, 0}};
        int[] before = Seen.diskAfter(2, DiskTest::alterPages);
        for (int[] row : rows) {
            int[] want = before.clone();
            for (int i = 0; i < row[2]; i++) {
                want[row[1] + i] = before[row[0] + i];
            }
            String call = "carry " + row[0] + " " + row[1] + " " + row[2];
            Consumer<SealedPages> carried = x -> {
                alterPages(x);
                CHECKS.due(call, x.carry(row[0], row[1], row[2]), row[2]);
            };
            CHECKS.dueRow("disk after " + call, Seen.diskAfter(2, carried), want);
        }
    }

    private static void promise11Refuses() {
        int most = Integer.MAX_VALUE;
        int least = Integer.MIN_VALUE;
        int[][] rows = {{-1, 0, 1}, {0, -1, 1}, {0, 0, -1}, {-1, 0, 0}, {0, -1, 0}, {0, 0, 233}, {1, 0, 232},
            {0, 1, 232}, {232, 0, 1}, {0, 232, 1}, {233, 0, 0}, {0, 233, 0}, {most, 0, 0}, {0, most, 0}, {0, 0, most},
            {most, most, most}, {1, 1, most}, {most, 0, 1}, {least, 0, 1}, {0, least, 1}, {0, 0, least},
            {least, least, least}, {5, 5, least}, {most, 5, least}};
        Consumer<SealedPages> refused = x -> {
            for (int[] row : rows) {
                CHECKS.due("carry " + row[0] + " " + row[1] + " " + row[2], x.carry(row[0], row[1], row[2]), -1);
            }
        };
        CHECKS.dueRow("disk after refused carry", Seen.diskAfter(2, refused), new Model(2).disk);
    }

    private static void promise12Root() {
        SealedPages x = new SealedPages(3);
        Model m = new Model(3);
        CHECKS.dueRow("root", Checks.rootOf(x), m.root);
        for (int i : new int[] {-1, 32, 33, Integer.MIN_VALUE, Integer.MAX_VALUE}) {
            CHECKS.due("root " + i, x.root(i), -1);
        }
    }

    private static void promise12RootStaysOutside() {
        SealedPages x = new SealedPages(3);
        int[] root = Checks.rootOf(x);
        x.alter(0, 255);
        x.alter(x.size() - 1, 255);
        x.carry(0, 40, 100);
        x.read(0);
        x.write(0);
        x.fault(0);
        x.held();
        x.first();
        x.hash(64, 0);
        x.keep();
        x.back();
        CHECKS.dueRow("root", Checks.rootOf(x), root);
    }

    private static void putAndWrite(SealedPages x, int page, int v) {
        x.put(0, v);
        x.write(page);
    }

    private static void promise20KeepsOneAtATime() {
        Consumer<SealedPages> written = x -> {
            CHECKS.due("keep", x.keep(), 392);
            putAndWrite(x, 1, 1);
        };
        Consumer<SealedPages> kept = written.andThen(x -> CHECKS.due("keep again", x.keep(), 392));
        Consumer<SealedPages> opened = kept.andThen(x -> {
            putAndWrite(x, 1, 2);
            x.open();
        });
        int[] disk = Seen.diskAfter(3, written);
        int[] root = Checks.rootOf(Seen.made(3, written));
        CHECKS.dueRow("disk after keep", Seen.diskAfter(3, kept), disk);
        CHECKS.dueRow("root after keep", Checks.rootOf(Seen.made(3, kept)), root);
        CHECKS.dueRow("disk after open", Seen.diskAfter(3, opened), disk);
        SealedPages x = Seen.made(3, opened);
        CHECKS.dueRow("root after open", Checks.rootOf(x), root);
        CHECKS.due("open again", x.open(), 0);
        CHECKS.due("draft stays", x.draft(0), 2);
    }

    private static void promise21BackLeavesTheRoot() {
        int[] disk = new Model(4).disk;
        Consumer<SealedPages> altered = x -> {
            x.keep();
            x.alter(8, 1);
            x.alter(9, 255);
            x.alter(10, 0);
            x.alter(487, 16);
            CHECKS.due("back", x.back(), 3);
        };
        CHECKS.dueRow("disk after back", Seen.diskAfter(4, altered), disk);
        SealedPages x = Seen.made(4, altered);
        CHECKS.due("held after back", x.held(), 4);
        CHECKS.due("back again", x.back(), 0);
        Consumer<SealedPages> written = altered.andThen(y -> putAndWrite(y, 0, 1));
        Consumer<SealedPages> old = written.andThen(SealedPages::back);
        CHECKS.dueRow("disk after back", Seen.diskAfter(4, old), disk);
        SealedPages found = Seen.made(4, old);
        CHECKS.dueRow("root after back", Checks.rootOf(found), Checks.rootOf(Seen.made(4, written)));
        CHECKS.due("an old image is found out", found.fault(3), 2);
        CHECKS.due("held of an old image", found.held(), 0);
    }

    private static void promise22OpenBringsTheRoot() {
        Model m = new Model(4);
        Consumer<SealedPages> written = x -> {
            x.keep();
            putAndWrite(x, 0, 1);
        };
        int[] now = Seen.diskAfter(4, written);
        int differed = 0;
        for (int i = 0; i < now.length; i++) {
            differed += now[i] == m.disk[i] ? 0 : 1;
        }
        CHECKS.due("open", Seen.answer(4, written, SealedPages::open), differed);
        Consumer<SealedPages> opened = written.andThen(SealedPages::open);
        CHECKS.dueRow("disk after open", Seen.diskAfter(4, opened), m.disk);
        SealedPages x = Seen.made(4, opened);
        CHECKS.dueRow("root after open", Checks.rootOf(x), m.root);
        CHECKS.due("held after open", x.held(), 4);
        x.alter(8, 4);
        x.keep();
        x.alter(8, 4);
        x.alter(9, 1);
        CHECKS.due("open of a broken image", x.open(), 2);
        CHECKS.due("first after that", x.first(), 0);
        CHECKS.due("held after that", x.held(), 3);
    }

    private static void promise21And22NothingKept() {
        Consumer<SealedPages> written = x -> putAndWrite(x, 0, 1);
        Consumer<SealedPages> refused = written.andThen(x -> {
            CHECKS.due("back", x.back(), -1);
            CHECKS.due("open", x.open(), -1);
        });
        CHECKS.dueRow("disk", Seen.diskAfter(2, refused), Seen.diskAfter(2, written));
        CHECKS.dueRow("root", Checks.rootOf(Seen.made(2, refused)), Checks.rootOf(Seen.made(2, written)));
    }
}
