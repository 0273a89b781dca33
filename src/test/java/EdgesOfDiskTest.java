import java.util.function.Consumer;

/** Boundary cases of promises 8 size to 12 root and 20 keep to 22 open, each in a test of its own. */
public final class EdgesOfDiskTest {
    private static final int LEAST = Integer.MIN_VALUE;
    private static final int MOST = Integer.MAX_VALUE;
    private static final int[] SIZES = {1, 3, 64};
    private static final Checks CHECKS = new Checks("EdgesOfDiskTest");

    public static void main(String[] args) {
        promise8SmallestAndLargest();
        promise8NeverChanges();
        promise9FirstAndLastByte();
        promise9NoneWithoutSuchAByte();
        promise10FirstAndLastByte();
        promise10NoBitsTurned();
        promise10AllBitsTurned();
        promise10TwiceIsAsItWas();
        promise10NoneWithoutSuchAByte();
        promise11OfNoBytes();
        promise11OfTheWholeDisk();
        promise11UpToTheLastByte();
        promise11OverlapsUpwards();
        promise11OverlapsDownwards();
        promise11ToItself();
        promise11NoneBelowZero();
        promise11NoneAboveTheSize();
        promise11NoneWhereTheSumWraps();
        promise12FirstAndLastByte();
        promise12NoneOutside();
        promise20TellsTheSizeAndChangesNothingElse();
        promise20OneAtATime();
        promise20KeepsABrokenImage();
        promise20IsACopy();
        promise21NothingKept();
        promise21NoByteDiffered();
        promise21EveryByteDiffered();
        promise21TheRootStays();
        promise21KeptStaysKept();
        promise22NothingKept();
        promise22NoByteDiffered();
        promise22EveryByteDiffered();
        promise22RootBytesAreNotCounted();
        promise22TheRootIsTheKeptOne();
        promise22KeptStaysKept();
        CHECKS.end();
    }

    private static void promise8SmallestAndLargest() {
        int[][] rows = {{LEAST, 104}, {0, 104}, {1, 104}, {2, 232}, {3, 392}, {63, 8072}, {64, 8168}, {65, 8168},
            {MOST, 8168}};
        for (int[] row : rows) {
            CHECKS.leaves("size of new " + row[0], row[0], x -> { }, SealedPages::size, row[1]);
        }
    }

    private static void promise8NeverChanges() {
        CHECKS.leaves("size", 3, Seen::busy, SealedPages::size, 392);
        CHECKS.leaves("size", 3, Seen::broken, SealedPages::size, 392);
        // The number of pages that the head tells is not what the disk has.
        CHECKS.leaves("size with another head", 3, x -> x.alter(2, 255), SealedPages::size, 392);
    }

    private static void promise9FirstAndLastByte() {
        for (int pages : SIZES) {
            int last = new SealedPages(pages).size() - 1;
            int lastByte = new Model(pages).disk[last];
            CHECKS.leaves("disk 0", pages, x -> { }, x -> x.disk(0), 83);
            CHECKS.leaves("disk of the last byte", pages, x -> { }, x -> x.disk(last), lastByte);
        }
    }

    private static int[] noByteOf(int pages) {
        int size = new SealedPages(pages).size();
        return new int[] {LEAST, LEAST + 8, -size, -1, size, size + 1, 8168, 8169, 65536, MOST};
    }

    private static void promise9NoneWithoutSuchAByte() {
        for (int pages : SIZES) {
            for (int i : noByteOf(pages)) {
                CHECKS.refused("disk " + i, pages, x -> x.disk(i));
            }
        }
    }

    private static void promise10FirstAndLastByte() {
        for (int pages : SIZES) {
            for (int i : new int[] {0, new SealedPages(pages).size() - 1}) {
                int[] want = new Model(pages).disk;
                String name = "alter " + i + " of " + pages;
                CHECKS.due(name, Seen.answer(pages, x -> { }, x -> x.alter(i, 5)), want[i]);
                want[i] ^= 5;
                CHECKS.dueRow("disk after " + name, Seen.diskAfter(pages, x -> x.alter(i, 5)), want);
            }
        }
    }

    private static void promise10NoBitsTurned() {
        for (int v : new int[] {0, 256, -256, LEAST}) {
            CHECKS.leaves("alter 0 " + v, 3, Seen::busy, x -> x.alter(0, v), 83);
            CHECKS.leaves("alter 391 " + v, 3, x -> { }, x -> x.alter(391, v), new Model(3).disk[391]);
        }
    }

    private static void promise10AllBitsTurned() {
        for (int v : new int[] {255, -1, MOST, 511}) {
            SealedPages x = new SealedPages(1);
            CHECKS.due("alter 3 " + v, x.alter(3, v), 64);
            CHECKS.due("disk after alter 3 " + v, x.disk(3), 191);
            CHECKS.due("alter 8 " + v, x.alter(8, v), 0);
            CHECKS.due("disk after alter 8 " + v, x.disk(8), 255);
        }
    }

    private static void promise10TwiceIsAsItWas() {
        Consumer<SealedPages> once = x -> { Seen.busy(x); x.alter(100, 0xc3); };
        Consumer<SealedPages> twice = once.andThen(x -> x.alter(100, 0xc3));
        CHECKS.dueRow("all after alter twice", Seen.after(3, twice), Seen.after(3, Seen::busy));
        CHECKS.due("held after alter once", Seen.made(3, once).held(), 2);
        CHECKS.due("held after alter twice", Seen.made(3, twice).held(), 3);
    }

    private static void promise10NoneWithoutSuchAByte() {
        for (int pages : SIZES) {
            for (int i : noByteOf(pages)) {
                CHECKS.refused("alter " + i, pages, x -> x.alter(i, 255));
            }
        }
    }

    private static void promise11OfNoBytes() {
        for (int pages : SIZES) {
            int size = new SealedPages(pages).size();
            int[][] rows = {{0, 0}, {0, size}, {size, 0}, {size, size}, {8, 72}, {size - 1, 1}};
            for (int[] row : rows) {
                CHECKS.leaves("carry " + row[0] + " " + row[1] + " 0", pages, Seen::busy,
                        x -> x.carry(row[0], row[1], 0), 0);
            }
        }
    }

    private static void promise11OfTheWholeDisk() {
        for (int pages : SIZES) {
            int size = new SealedPages(pages).size();
            CHECKS.leaves("carry 0 0 " + size, pages, Seen::busy, x -> x.carry(0, 0, size), size);
            CHECKS.refused("carry 1 0 " + size, pages, x -> x.carry(1, 0, size));
            CHECKS.refused("carry 0 1 " + size, pages, x -> x.carry(0, 1, size));
            CHECKS.refused("carry 0 0 " + (size + 1), pages, x -> x.carry(0, 0, size + 1));
        }
    }

    private static void dueCarry(int pages, int from, int to, int n) {
        int[] before = Seen.diskAfter(pages, Seen::busy);
        int[] want = before.clone();
        for (int i = 0; i < n; i++) {
            want[to + i] = before[from + i];
        }
        String name = "carry " + from + " " + to + " " + n + " of " + pages;
        Consumer<SealedPages> run = x -> { Seen.busy(x); x.carry(from, to, n); };
        CHECKS.due(name, Seen.answer(pages, Seen::busy, x -> x.carry(from, to, n)), n);
        CHECKS.dueRow("disk after " + name, Seen.diskAfter(pages, run), want);
    }

    // "NONE: .. from and n, or to and n, are together above its size": together they may be the size
    private static void promise11UpToTheLastByte() {
        for (int pages : SIZES) {
            int size = new SealedPages(pages).size();
            dueCarry(pages, size - 1, 0, 1);
            dueCarry(pages, 0, size - 1, 1);
            dueCarry(pages, size - 32, 8, 32);
            dueCarry(pages, 8, size - 32, 32);
            dueCarry(pages, 0, 1, size - 1);
            dueCarry(pages, 1, 0, size - 1);
        }
    }

    // "as they all were before"
    private static void promise11OverlapsUpwards() {
        for (int by : new int[] {1, 2, 7, 31, 63}) {
            dueCarry(3, 8, 8 + by, 64);
            dueCarry(3, 0, by, 392 - by);
            dueCarry(64, 4000, 4000 + by, 64);
        }
    }

    private static void promise11OverlapsDownwards() {
        for (int by : new int[] {1, 2, 7, 31, 63}) {
            dueCarry(3, 8 + by, 8, 64);
            dueCarry(3, by, 0, 392 - by);
            dueCarry(64, 4000 + by, 4000, 64);
        }
    }

    private static void promise11ToItself() {
        CHECKS.leaves("carry 8 8 64", 3, Seen::busy, x -> x.carry(8, 8, 64), 64);
        CHECKS.leaves("carry 391 391 1", 3, Seen::busy, x -> x.carry(391, 391, 1), 1);
    }

    private static void dueNoCarry(int[]... rows) {
        for (int[] row : rows) {
            CHECKS.refused("carry " + row[0] + " " + row[1] + " " + row[2], 3, x -> x.carry(row[0], row[1], row[2]));
        }
    }

    // "n, from or to is below 0"
    private static void promise11NoneBelowZero() {
        dueNoCarry(new int[][] {{0, 0, -1}, {-1, 0, 1}, {0, -1, 1}, {-1, 0, 0}, {0, -1, 0}, {8, 72, -64},
            {100, 100, -1}, {392, 392, -1}, {393, 393, -1}, {-1, -1, -1}, {LEAST, 0, 1}, {0, LEAST, 1}, {0, 0, LEAST},
            {LEAST, LEAST, LEAST}, {-1, 0, 392}, {0, -1, 392}});
    }

    // "from and n, or to and n, are together above its size"
    private static void promise11NoneAboveTheSize() {
        dueNoCarry(new int[][] {{392, 0, 1}, {0, 392, 1}, {391, 0, 2}, {0, 391, 2}, {393, 0, 0}, {0, 393, 0},
            {1, 0, 392}, {0, 1, 392}, {0, 0, 393}, {329, 0, 64}, {0, 329, 64}, {392, 392, 392}});
    }

    private static void promise11NoneWhereTheSumWraps() {
        dueNoCarry(new int[][] {{MOST, 0, 1}, {0, MOST, 1}, {0, 0, MOST}, {1, 0, MOST}, {0, 1, MOST}, {1, 1, MOST},
            {MOST, MOST, MOST}, {MOST, 0, 0}, {0, MOST, 0}, {MOST, 0, MOST}, {0, MOST, MOST}, {MOST, MOST, 2},
            {1 << 30, 0, 1 << 30}, {0, 1 << 30, 1 << 30}, {1 << 30, 1 << 30, 1 << 30}, {MOST, 5, LEAST}});
    }

    private static void promise12FirstAndLastByte() {
        for (int pages : SIZES) {
            int[] want = new Model(pages).root;
            CHECKS.leaves("root 0", pages, x -> { }, x -> x.root(0), want[0]);
            CHECKS.leaves("root 31", pages, x -> { }, x -> x.root(31), want[31]);
        }
        CHECKS.due("root 0 of 4", new SealedPages(4).root(0), 131);
    }

    private static void promise12NoneOutside() {
        for (int i : new int[] {LEAST, LEAST + 31, -32, -1, 32, 33, 64, 256, MOST}) {
            CHECKS.refused("root " + i, 3, x -> x.root(i));
        }
    }

    private static void promise20TellsTheSizeAndChangesNothingElse() {
        int[] sizes = {104, 392, 8168};
        for (int i = 0; i < SIZES.length; i++) {
            int pages = SIZES[i];
            CHECKS.due("keep of new " + pages, new SealedPages(pages).keep(), sizes[i]);
            CHECKS.due("keep of " + pages, Seen.answer(pages, Seen::broken, SealedPages::keep), sizes[i]);
            int[] before = Seen.diskAfter(pages, Seen::busy);
            Consumer<SealedPages> run = x -> { Seen.busy(x); x.keep(); };
            CHECKS.dueRow("disk after keep", Seen.diskAfter(pages, run), before);
            SealedPages x = Seen.made(pages, run);
            SealedPages unkept = Seen.made(pages, Seen::busy);
            CHECKS.dueRow("root after keep", Checks.rootOf(x), Checks.rootOf(unkept));
            CHECKS.dueRow("draft after keep", Checks.draftOf(x), Checks.draftOf(unkept));
        }
    }

    // "one at a time": the next takes the place of the one before, disk and root
    private static void promise20OneAtATime() {
        Consumer<SealedPages> second = x -> { x.put(0, 2); x.write(1); };
        Consumer<SealedPages> run = x -> {
            x.put(0, 1);
            x.write(0);
            x.keep();
            second.accept(x);
            x.keep();
            x.put(0, 3);
            x.write(2);
            x.open();
        };
        Consumer<SealedPages> want = x -> { x.put(0, 1); x.write(0); second.accept(x); };
        CHECKS.dueRow("disk opened", Seen.diskAfter(3, run), Seen.diskAfter(3, want));
        CHECKS.dueRow("root opened", Checks.rootOf(Seen.made(3, run)), Checks.rootOf(Seen.made(3, want)));
        CHECKS.due("held opened", Seen.made(3, run).held(), 3);
    }

    // "as it is", whether or not it holds
    private static void promise20KeepsABrokenImage() {
        Consumer<SealedPages> run = x -> {
            Seen.broken(x);
            x.keep();
            x.seal();
            x.open();
        };
        CHECKS.dueRow("disk opened", Seen.diskAfter(3, run), Seen.diskAfter(3, Seen::broken));
        CHECKS.dueRow("root opened", Checks.rootOf(Seen.made(3, run)), Checks.rootOf(Seen.made(3, Seen::broken)));
        CHECKS.due("first opened", Seen.made(3, run).first(), 2);
    }

    private static void promise20IsACopy() {
        SealedPages x = new SealedPages(2);
        x.keep();
        x.alter(8, 1);
        CHECKS.due("back after alter", x.back(), 1);
        CHECKS.due("disk after back", x.disk(8), 0);
        x.alter(8, 2);
        CHECKS.due("back after alter again", x.back(), 1);
        CHECKS.due("disk after back again", x.disk(8), 0);
    }

    private static void promise21NothingKept() {
        for (int pages : SIZES) {
            CHECKS.leaves("back of a new image", pages, x -> { }, SealedPages::back, -1);
            CHECKS.leaves("back, nothing kept", pages, Seen::broken, SealedPages::back, -1);
        }
    }

    private static void promise21NoByteDiffered() {
        for (int pages : SIZES) {
            CHECKS.leaves("back of what was just kept", pages, x -> { Seen.broken(x); x.keep(); }, SealedPages::back, 0);
            CHECKS.leaves("back of a new image kept", pages, SealedPages::keep, SealedPages::back, 0);
        }
    }

    /** One page has 104 bytes, few enough for a call each. */
    private static void keepThenAlterAll(SealedPages x) {
        x.keep();
        for (int i = 0; i < 104; i++) {
            x.alter(i, i + 1);
        }
    }

    private static void promise21EveryByteDiffered() {
        CHECKS.due("back", Seen.answer(1, EdgesOfDiskTest::keepThenAlterAll, SealedPages::back), 104);
        CHECKS.dueRow("all after back", Seen.after(1, x -> { keepThenAlterAll(x); x.back(); }),
                Seen.after(1, SealedPages::keep));
        for (int i : new int[] {0, 7, 8, 71, 72, 103}) {
            SealedPages x = new SealedPages(1);
            x.keep();
            x.alter(i, 128);
            CHECKS.due("back with byte " + i, x.back(), 1);
            CHECKS.due("held after back with byte " + i, x.held(), 1);
        }
    }

    // "the ROOT stays": an older image is found out
    private static void promise21TheRootStays() {
        for (int pages : SIZES) {
            Consumer<SealedPages> run = x -> { Seen.busy(x); x.back(); };
            int[] root = Checks.rootOf(Seen.made(pages, Seen::busy));
            SealedPages x = Seen.made(pages, run);
            CHECKS.dueRow("root of " + pages + " after back", Checks.rootOf(x), root);
            CHECKS.due("fault 0 of " + pages + " after back", x.fault(0), 2);
            CHECKS.due("fault of the last of " + pages + " after back", x.fault(pages - 1), 2);
            CHECKS.due("held of " + pages + " after back", x.held(), 0);
            CHECKS.due("write of " + pages + " after back", x.write(0), 2);
        }
    }

    private static void promise21KeptStaysKept() {
        SealedPages x = new SealedPages(1);
        x.keep();
        for (int i = 0; i < 3; i++) {
            x.alter(50, 9);
            CHECKS.due("back again", x.back(), 1);
        }
        CHECKS.due("open after back", x.open(), 0);
        CHECKS.due("held", x.held(), 1);
    }

    private static void promise22NothingKept() {
        for (int pages : SIZES) {
            CHECKS.leaves("open of a new image", pages, x -> { }, SealedPages::open, -1);
            CHECKS.leaves("open, nothing kept", pages, Seen::broken, SealedPages::open, -1);
        }
    }

    private static void promise22NoByteDiffered() {
        for (int pages : SIZES) {
            CHECKS.leaves("open of what was just kept", pages, x -> { Seen.broken(x); x.keep(); }, SealedPages::open, 0);
            CHECKS.leaves("open of a new image kept", pages, SealedPages::keep, SealedPages::open, 0);
        }
    }

    private static void promise22EveryByteDiffered() {
        CHECKS.due("open", Seen.answer(1, EdgesOfDiskTest::keepThenAlterAll, SealedPages::open), 104);
        CHECKS.dueRow("all after open", Seen.after(1, x -> { keepThenAlterAll(x); x.open(); }),
                Seen.after(1, SealedPages::keep));
    }

    // "how many bytes of the DISK differed": the root's 32 are no part of it
    private static void promise22RootBytesAreNotCounted() {
        SealedPages x = new SealedPages(1);
        x.keep();
        x.put(0, 1);
        x.write(0);
        x.back();
        CHECKS.due("fault with another root", x.fault(0), 2);
        CHECKS.due("open with another root", x.open(), 0);
        CHECKS.due("fault with the kept root", x.fault(0), 0);
    }

    private static void promise22TheRootIsTheKeptOne() {
        for (int pages : SIZES) {
            SealedPages x = Seen.made(pages, Seen::busy);
            int differed = 0;
            int[] now = Seen.diskAfter(pages, Seen::busy);
            int[] kept = Seen.diskAfter(pages, y -> { Seen.busy(y); y.back(); });
            for (int i = 0; i < now.length; i++) {
                differed += now[i] == kept[i] ? 0 : 1;
            }
            CHECKS.due("open of " + pages, x.open(), differed);
            CHECKS.dueRow("root of " + pages + " after open", Checks.rootOf(x), keptRoot(pages));
            CHECKS.due("held of " + pages + " after open", x.held(), pages);
            CHECKS.due("draft stays", x.draft(55), 77);
        }
    }

    /** The root that busy keeps: that of the page it writes ahead of keep. */
    private static int[] keptRoot(int pages) {
        Model m = new Model(pages);
        for (int k = 0; k < 8; k++) {
            m.fill(k, 0x0123456789abcdefL * (2 * k + 1));
        }
        m.write(0);
        return m.root;
    }

    private static void promise22KeptStaysKept() {
        SealedPages x = new SealedPages(1);
        x.keep();
        int[] root = Checks.rootOf(x);
        for (int i = 1; i <= 3; i++) {
            x.put(0, i);
            x.write(0);
            CHECKS.due("open again", x.open() > 0 ? 1 : 0, 1);
            CHECKS.dueRow("root opened again", Checks.rootOf(x), root);
            CHECKS.due("disk opened again", x.disk(8), 0);
            CHECKS.due("held opened again", x.held(), 1);
        }
        CHECKS.due("back after open", x.back(), 0);
        CHECKS.dueRow("root after back", Checks.rootOf(x), root);
    }
}
