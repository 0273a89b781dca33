/** Promises 8 size, 9 disk, 10 alter, 11 carry, 12 root, 20 keep, 21 back, 22 open. */
public final class DiskTest {
    private static final Checks CHECKS = new Checks("DiskTest");

    public static void main(String[] args) {
        promise8Size();
        promise9Disk();
        promise10Alter();
        promise11CarryOverlapping();
        promise11Refuses();
        promise12Root();
        promise12RootStaysOutside();
        promise20KeepsOneAtATime();
        promise21BackLeavesTheRoot();
        promise22OpenBringsTheRoot();
        promise21And22NothingKept();
        CHECKS.end();
    }

    private static void promise8Size() {
        int[][] rows = {{1, 104}, {2, 232}, {3, 392}, {4, 488}, {5, 680}, {33, 4360}, {63, 8072}, {64, 8168}};
        for (int[] row : rows) {
            CHECKS.due("size of " + row[0], new SealedPages(row[0]).size(), row[1]);
        }
    }

    private static void promise9Disk() {
        SealedPages x = new SealedPages(9);
        int[] head = {83, 73, 9, 64, 0, 0, 0, 0};
        for (int i = 0; i < 8; i++) {
            CHECKS.due("disk " + i, x.disk(i), head[i]);
        }
        x.put(0, 5);
        x.put(63, 6);
        x.write(8);
        CHECKS.due("first byte of the last page", x.disk(8 + 64 * 8), 5);
        CHECKS.due("last byte of the last page", x.disk(7 + 64 * 9), 6);
        CHECKS.due("last byte", x.disk(x.size() - 1) >= 0 ? 1 : 0, 1);
        for (int i : new int[] {-1, x.size(), x.size() + 1, Integer.MIN_VALUE, Integer.MAX_VALUE}) {
            CHECKS.due("disk " + i, x.disk(i), -1);
        }
    }

    private static void promise10Alter() {
        SealedPages x = new SealedPages(2);
        int[] want = Checks.diskOf(x);
        int[] bits = {1, 128, 255, 256, -1, 0, 511, Integer.MIN_VALUE, Integer.MAX_VALUE, 0x55aa};
        int[] root = Checks.rootOf(x);
        for (int i = 0; i < x.size(); i++) {
            int v = bits[i % bits.length];
            CHECKS.due("alter " + i + " " + v, x.alter(i, v), want[i]);
            want[i] = (want[i] ^ v) & 255;
            CHECKS.due("disk after alter " + i, x.disk(i), want[i]);
        }
        for (int i : new int[] {-1, x.size(), Integer.MIN_VALUE, Integer.MAX_VALUE}) {
            CHECKS.due("alter " + i, x.alter(i, 255), -1);
        }
        CHECKS.dueRow("disk after alters", Checks.diskOf(x), want);
        CHECKS.dueRow("root after alters", Checks.rootOf(x), root);
    }

    private static void promise11CarryOverlapping() {
        int[][] rows = {{0, 0, 232}, {0, 5, 200}, {5, 0, 200}, {8, 72, 64}, {72, 8, 64}, {231, 0, 1}, {0, 231, 1},
            {10, 11, 50}, {11, 10, 50}, {0, 1, 231}, {1, 0, 231}, {100, 30, 0}, {232, 232, 0}, {232, 0, 0}};
        for (int[] row : rows) {
            SealedPages x = new SealedPages(2);
            for (int i = 8; i < 136; i++) {
                x.alter(i, i);
            }
            int[] before = Checks.diskOf(x);
            int[] want = before.clone();
            for (int i = 0; i < row[2]; i++) {
                want[row[1] + i] = before[row[0] + i];
            }
            String call = "carry " + row[0] + " " + row[1] + " " + row[2];
            CHECKS.due(call, x.carry(row[0], row[1], row[2]), row[2]);
            CHECKS.dueRow("disk after " + call, Checks.diskOf(x), want);
        }
    }

    private static void promise11Refuses() {
        int most = Integer.MAX_VALUE;
        int least = Integer.MIN_VALUE;
        int[][] rows = {{-1, 0, 1}, {0, -1, 1}, {0, 0, -1}, {-1, 0, 0}, {0, -1, 0}, {0, 0, 233}, {1, 0, 232},
            {0, 1, 232}, {232, 0, 1}, {0, 232, 1}, {233, 0, 0}, {0, 233, 0}, {most, 0, 0}, {0, most, 0}, {0, 0, most},
            {most, most, most}, {1, 1, most}, {most, 0, 1}, {least, 0, 1}, {0, least, 1}, {0, 0, least},
            {least, least, least}, {5, 5, least}, {most, 5, least}};
        SealedPages x = new SealedPages(2);
        int[] before = Checks.diskOf(x);
        for (int[] row : rows) {
            CHECKS.due("carry " + row[0] + " " + row[1] + " " + row[2], x.carry(row[0], row[1], row[2]), -1);
        }
        CHECKS.dueRow("disk after refused carry", Checks.diskOf(x), before);
    }

    private static void promise12Root() {
        SealedPages x = new SealedPages(3);
        Model m = new Model(3);
        CHECKS.dueRow("root", Checks.rootOf(x), m.root);
        for (int i : new int[] {-1, 32, 33, Integer.MIN_VALUE, Integer.MAX_VALUE}) {
            CHECKS.due("root " + i, x.root(i), -1);
        }
    }

    private static void promise12RootStaysOutside() {
        SealedPages x = new SealedPages(3);
        int[] root = Checks.rootOf(x);
        x.alter(0, 255);
        x.alter(x.size() - 1, 255);
        x.carry(0, 40, 100);
        x.read(0);
        x.write(0);
        x.fault(0);
        x.held();
        x.first();
        x.hash(64, 0);
        x.keep();
        x.back();
        CHECKS.dueRow("root", Checks.rootOf(x), root);
    }

    private static void promise20KeepsOneAtATime() {
        SealedPages x = new SealedPages(3);
        CHECKS.due("keep", x.keep(), 392);
        x.put(0, 1);
        x.write(1);
        int[] disk = Checks.diskOf(x);
        int[] root = Checks.rootOf(x);
        CHECKS.due("keep again", x.keep(), 392);
        CHECKS.dueRow("disk after keep", Checks.diskOf(x), disk);
        CHECKS.dueRow("root after keep", Checks.rootOf(x), root);
        x.put(0, 2);
        x.write(1);
        x.open();
        CHECKS.dueRow("disk after open", Checks.diskOf(x), disk);
        CHECKS.dueRow("root after open", Checks.rootOf(x), root);
        CHECKS.due("open again", x.open(), 0);
        CHECKS.due("draft stays", x.draft(0), 2);
    }

    private static void promise21BackLeavesTheRoot() {
        SealedPages x = new SealedPages(4);
        x.keep();
        int[] disk = Checks.diskOf(x);
        x.alter(8, 1);
        x.alter(9, 255);
        x.alter(10, 0);
        x.alter(487, 16);
        CHECKS.due("back", x.back(), 3);
        CHECKS.dueRow("disk after back", Checks.diskOf(x), disk);
        CHECKS.due("held after back", x.held(), 4);
        CHECKS.due("back again", x.back(), 0);
        x.put(0, 1);
        x.write(0);
        int[] root = Checks.rootOf(x);
        x.back();
        CHECKS.dueRow("disk after back", Checks.diskOf(x), disk);
        CHECKS.dueRow("root after back", Checks.rootOf(x), root);
        CHECKS.due("an old image is found out", x.fault(3), 2);
        CHECKS.due("held of an old image", x.held(), 0);
    }

    private static void promise22OpenBringsTheRoot() {
        SealedPages x = new SealedPages(4);
        int[] disk = Checks.diskOf(x);
        int[] root = Checks.rootOf(x);
        x.keep();
        x.put(0, 1);
        x.write(0);
        int[] now = Checks.diskOf(x);
        int differed = 0;
        for (int i = 0; i < now.length; i++) {
            differed += now[i] == disk[i] ? 0 : 1;
        }
        CHECKS.due("open", x.open(), differed);
        CHECKS.dueRow("disk after open", Checks.diskOf(x), disk);
        CHECKS.dueRow("root after open", Checks.rootOf(x), root);
        CHECKS.due("held after open", x.held(), 4);
        x.alter(8, 4);
        x.keep();
        x.alter(8, 4);
        x.alter(9, 1);
        CHECKS.due("open of a broken image", x.open(), 2);
        CHECKS.due("first after that", x.first(), 0);
        CHECKS.due("held after that", x.held(), 3);
    }

    private static void promise21And22NothingKept() {
        SealedPages x = new SealedPages(2);
        x.put(0, 1);
        x.write(0);
        int[] disk = Checks.diskOf(x);
        int[] root = Checks.rootOf(x);
        CHECKS.due("back", x.back(), -1);
        CHECKS.due("open", x.open(), -1);
        CHECKS.dueRow("disk", Checks.diskOf(x), disk);
        CHECKS.dueRow("root", Checks.rootOf(x), root);
    }
}
