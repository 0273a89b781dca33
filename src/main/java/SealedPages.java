/**
 * A sealed image: pages on a disk that anybody can alter, sealed by a tree of hashes whose root is
 * kept outside; each page is read only if all on its way to the root is as it was sealed.
 *
 * Every row is made once, in a constructor, and used again, so that no call makes an object.
 */
public final class SealedPages {
    public static final int NONE = -1;

    private static final int MOST_PAGES = 64;
    private static final int HEAD_BYTES = 8;
    private static final int PAGE_BYTES = 64;
    private static final int HASH_BYTES = 32;
    private static final int LONG_BYTES = 8;
    private static final int LOWEST_EIGHT_BITS = 255;

    private static final int HOLDS = 0;
    private static final int HEAD_FAULT = 1;
    private static final int ROOT_FAULT = 2;
    private static final int LEVEL_0_FAULT = 3;

    private final Layout layout;
    private final Hasher hasher;
    private final int[] diskBytes;
    private final int[] rootBytes;
    private final int[] draftBytes;
    private final int[] keptDisk;
    private final int[] keptRoot;
    private final int[] faultsDownTo;
    private boolean somethingKept;
    private int pagesGiven;
    private int pagesWritten;
    private int faultsTold;

    public SealedPages(int pages) {
        layout = new Layout(Math.max(1, Math.min(MOST_PAGES, pages)));
        hasher = new Hasher();
        diskBytes = new int[layout.byteCount];
        rootBytes = new int[HASH_BYTES];
        draftBytes = new int[PAGE_BYTES];
        keptDisk = new int[layout.byteCount];
        keptRoot = new int[HASH_BYTES];
        faultsDownTo = new int[layout.nodeCount];
        sealAll();
    }

    public int put(int i, int v) {
        if (!isBelow(i, PAGE_BYTES)) {
            return NONE;
        }
        int was = draftBytes[i];
        draftBytes[i] = v & LOWEST_EIGHT_BITS;
        return was;
    }

    public int fill(int k, long v) {
        if (!isBelow(k, PAGE_BYTES / LONG_BYTES)) {
            return NONE;
        }
        int start = LONG_BYTES * k;
        for (int i = 0; i < LONG_BYTES; i++) {
            draftBytes[start + i] = (int) (v >>> (56 - 8 * i)) & LOWEST_EIGHT_BITS;
        }
        return start;
    }

    public int draft(int i) {
        return isBelow(i, PAGE_BYTES) ? draftBytes[i] : NONE;
    }

    public int read(int page) {
        int found = fault(page);
        if (found == HOLDS) {
            System.arraycopy(diskBytes, layout.placeOfPage(page), draftBytes, 0, PAGE_BYTES);
            pagesGiven++;
        } else if (found != NONE) {
            faultsTold++;
        }
        return found;
    }

    public int write(int page) {
        int found = fault(page);
        if (found == HOLDS) {
            System.arraycopy(draftBytes, 0, diskBytes, layout.placeOfPage(page), PAGE_BYTES);
            sealWay(page);
            pagesWritten++;
        } else if (found != NONE) {
            faultsTold++;
        }
        return found;
    }

    public int seal() {
        sealAll();
        return layout.nodeCount;
    }

    public int size() {
        return layout.byteCount;
    }

    public int disk(int i) {
        return isBelow(i, layout.byteCount) ? diskBytes[i] : NONE;
    }

    public int alter(int i, int v) {
        if (!isBelow(i, layout.byteCount)) {
            return NONE;
        }
        int was = diskBytes[i];
        diskBytes[i] = was ^ (v & LOWEST_EIGHT_BITS);
        return was;
    }

    public int carry(int from, int to, int n) {
        if (n < 0 || from < 0 || to < 0) {
            return NONE;
        }
        // Taken from the size, since from + n could wrap.
        int lastStart = layout.byteCount - n;
        if (from > lastStart || to > lastStart) {
            return NONE;
        }
        System.arraycopy(diskBytes, from, diskBytes, to, n);
        return n;
    }

    public int root(int i) {
        return isBelow(i, HASH_BYTES) ? rootBytes[i] : NONE;
    }

    public int fault(int page) {
        if (!layout.hasPage(page)) {
            return NONE;
        }
        int found = faultAboveTree();
        for (int level = layout.levelCount - 1; level >= 0 && found == HOLDS; level--) {
            found = faultOfNode(level, page >> level);
        }
        return found;
    }

    public int held() {
        surveyTree();
        int count = 0;
        for (int page = 0; page < layout.pageCount; page++) {
            if (faultsDownTo[layout.numberOfNode(0, page)] == HOLDS) {
                count++;
            }
        }
        return count;
    }

    public int first() {
        surveyTree();
        for (int page = 0; page < layout.pageCount; page++) {
            if (faultsDownTo[layout.numberOfNode(0, page)] != HOLDS) {
                return page;
            }
        }
        return NONE;
    }

    public int levels() {
        return layout.levelCount;
    }

    public int node(int level, int k) {
        return layout.hasNode(level, k) ? layout.placeOfNode(level, k) : NONE;
    }

    public int proof(int page) {
        if (!layout.hasPage(page)) {
            return NONE;
        }
        int count = 0;
        for (int level = 0; level < layout.levelCount; level++) {
            if (layout.hasNode(level, nodeBesideWay(page, level))) {
                count++;
            }
        }
        return count;
    }

    public int beside(int page, int k, int i) {
        if (!layout.hasPage(page) || !isBelow(i, HASH_BYTES)) {
            return NONE;
        }
        int passed = 0;
        for (int level = 0; level < layout.levelCount; level++) {
            int other = nodeBesideWay(page, level);
            if (layout.hasNode(level, other)) {
                if (passed == k) {
                    return diskBytes[layout.placeOfNode(level, other) + i];
                }
                passed++;
            }
        }
        return NONE;
    }

    public int keep() {
        System.arraycopy(diskBytes, 0, keptDisk, 0, layout.byteCount);
        System.arraycopy(rootBytes, 0, keptRoot, 0, HASH_BYTES);
        somethingKept = true;
        return layout.byteCount;
    }

    public int back() {
        return somethingKept ? restoreDisk() : NONE;
    }

    public int open() {
        if (!somethingKept) {
            return NONE;
        }
        System.arraycopy(keptRoot, 0, rootBytes, 0, HASH_BYTES);
        return restoreDisk();
    }

    public int hash(int n, int i) {
        if (n < 0 || n > PAGE_BYTES || !isBelow(i, HASH_BYTES)) {
            return NONE;
        }
        hasher.begin();
        hasher.addRow(draftBytes, 0, n);
        hasher.finish();
        return hasher.resultByte(i);
    }

    public int told(int what) {
        switch (what) {
            case 0:
                return layout.pageCount;
            case 1:
                return pagesGiven;
            case 2:
                return pagesWritten;
            case 3:
                return faultsTold;
            default:
                return NONE;
        }
    }

    private static boolean isBelow(int i, int bound) {
        return i >= 0 && i < bound;
    }

    /** The last level has one node alone, so the number that this gives there is never a node's. */
    private static int nodeBesideWay(int page, int level) {
        return (page >> level) ^ 1;
    }

    private int headByteAsTold(int i) {
        switch (i) {
            case 0:
                return 83;
            case 1:
                return 73;
            case 2:
                return layout.pageCount;
            case 3:
                return PAGE_BYTES;
            default:
                return 0;
        }
    }

    private void hashNode(int level, int k) {
        hasher.begin();
        hasher.addByte(level);
        hasher.addByte(k);
        if (level == 0) {
            hasher.addRow(diskBytes, layout.placeOfPage(k), PAGE_BYTES);
        } else {
            // The nodes below lie side by side on the disk, so one row has them both.
            int nodesBelow = layout.hasNode(level - 1, 2 * k + 1) ? 2 : 1;
            hasher.addRow(diskBytes, layout.placeOfNode(level - 1, 2 * k), nodesBelow * HASH_BYTES);
        }
        hasher.finish();
    }

    private void hashHeadAndLastNode() {
        hasher.begin();
        hasher.addRow(diskBytes, 0, HEAD_BYTES);
        hasher.addRow(diskBytes, layout.placeOfNode(layout.levelCount - 1, 0), HASH_BYTES);
        hasher.finish();
    }

    private int faultAboveTree() {
        for (int i = 0; i < HEAD_BYTES; i++) {
            if (diskBytes[i] != headByteAsTold(i)) {
                return HEAD_FAULT;
            }
        }
        hashHeadAndLastNode();
        return hasher.resultIsAt(rootBytes, 0) ? HOLDS : ROOT_FAULT;
    }

    private int faultOfNode(int level, int k) {
        hashNode(level, k);
        return hasher.resultIsAt(diskBytes, layout.placeOfNode(level, k)) ? HOLDS : LEVEL_0_FAULT + level;
    }

    /** All ways at once: each node is hashed once at most, though many ways go through it. */
    private void surveyTree() {
        int aboveTree = faultAboveTree();
        int lastLevel = layout.levelCount - 1;
        for (int level = lastLevel; level >= 0; level--) {
            for (int k = 0; k < layout.widths[level]; k++) {
                int above = level == lastLevel
                        ? aboveTree : faultsDownTo[layout.numberOfNode(level + 1, k / 2)];
                faultsDownTo[layout.numberOfNode(level, k)] =
                        above != HOLDS ? above : faultOfNode(level, k);
            }
        }
    }

    private void sealNode(int level, int k) {
        hashNode(level, k);
        hasher.copyResult(diskBytes, layout.placeOfNode(level, k));
    }

    private void sealRoot() {
        hashHeadAndLastNode();
        hasher.copyResult(rootBytes, 0);
    }

    private void sealWay(int page) {
        for (int level = 0; level < layout.levelCount; level++) {
            sealNode(level, page >> level);
        }
        sealRoot();
    }

    private void sealAll() {
        for (int i = 0; i < HEAD_BYTES; i++) {
            diskBytes[i] = headByteAsTold(i);
        }
        for (int level = 0; level < layout.levelCount; level++) {
            for (int k = 0; k < layout.widths[level]; k++) {
                sealNode(level, k);
            }
        }
        sealRoot();
    }

    private int restoreDisk() {
        int differed = 0;
        for (int i = 0; i < layout.byteCount; i++) {
            if (diskBytes[i] != keptDisk[i]) {
                differed++;
                diskBytes[i] = keptDisk[i];
            }
        }
        return differed;
    }

    /** Where the head, the pages and the nodes lie on the disk. */
    private static final class Layout {
        /** 64 pages have levels of 64, 32, 16, 8, 4, 2 and 1 nodes. */
        private static final int MOST_LEVELS = 7;

        final int pageCount;
        final int levelCount;
        final int nodeCount;
        final int byteCount;
        final int[] widths;
        private final int[] nodesAhead;

        Layout(int pages) {
            pageCount = pages;
            widths = new int[MOST_LEVELS];
            nodesAhead = new int[MOST_LEVELS];
            int width = pages;
            int nodes = 0;
            int level = 0;
            boolean lastReached = false;
            while (level < MOST_LEVELS && !lastReached) {
                widths[level] = width;
                nodesAhead[level] = nodes;
                nodes += width;
                lastReached = width == 1;
                width = (width + 1) / 2;
                level++;
            }
            levelCount = level;
            nodeCount = nodes;
            byteCount = HEAD_BYTES + PAGE_BYTES * pages + HASH_BYTES * nodes;
        }

        boolean hasPage(int page) {
            return isBelow(page, pageCount);
        }

        boolean hasNode(int level, int k) {
            return isBelow(level, levelCount) && isBelow(k, widths[level]);
        }

        int placeOfPage(int page) {
            return HEAD_BYTES + PAGE_BYTES * page;
        }

        int numberOfNode(int level, int k) {
            return nodesAhead[level] + k;
        }

        int placeOfNode(int level, int k) {
            return HEAD_BYTES + PAGE_BYTES * pageCount + HASH_BYTES * numberOfNode(level, k);
        }
    }

    /** HASH of one row of bytes at a time: begin, the bytes, finish; the result stays until the next begin. */
    private static final class Hasher {
        private static final int BLOCK_BYTES = 64;

        private static final int[] FIRST_SUMS = {
            0x6a09e667, 0xbb67ae85, 0x3c6ef372, 0xa54ff53a, 0x510e527f, 0x9b05688c, 0x1f83d9ab, 0x5be0cd19
        };

        private static final int[] CONSTANTS = {
            0x428a2f98, 0x71374491, 0xb5c0fbcf, 0xe9b5dba5, 0x3956c25b, 0x59f111f1, 0x923f82a4, 0xab1c5ed5,
            0xd807aa98, 0x12835b01, 0x243185be, 0x550c7dc3, 0x72be5d74, 0x80deb1fe, 0x9bdc06a7, 0xc19bf174,
            0xe49b69c1, 0xefbe4786, 0x0fc19dc6, 0x240ca1cc, 0x2de92c6f, 0x4a7484aa, 0x5cb0a9dc, 0x76f988da,
            0x983e5152, 0xa831c66d, 0xb00327c8, 0xbf597fc7, 0xc6e00bf3, 0xd5a79147, 0x06ca6351, 0x14292967,
            0x27b70a85, 0x2e1b2138, 0x4d2c6dfc, 0x53380d13, 0x650a7354, 0x766a0abb, 0x81c2c92e, 0x92722c85,
            0xa2bfe8a1, 0xa81a664b, 0xc24b8b70, 0xc76c51a3, 0xd192e819, 0xd6990624, 0xf40e3585, 0x106aa070,
            0x19a4c116, 0x1e376c08, 0x2748774c, 0x34b0bcb5, 0x391c0cb3, 0x4ed8aa4a, 0x5b9cca4f, 0x682e6ff3,
            0x748f82ee, 0x78a5636f, 0x84c87814, 0x8cc70208, 0x90befffa, 0xa4506ceb, 0xbef9a3f7, 0xc67178f2
        };

        private final int[] sums = new int[8];
        private final int[] words = new int[64];
        private int length;

        void begin() {
            System.arraycopy(FIRST_SUMS, 0, sums, 0, 8);
            length = 0;
        }

        void addByte(int b) {
            int word = (length & (BLOCK_BYTES - 1)) >> 2;
            // Four bytes push out whatever the block before this one left in the word.
            words[word] = (words[word] << 8) | (b & LOWEST_EIGHT_BITS);
            length++;
            if ((length & (BLOCK_BYTES - 1)) == 0) {
                spreadWords();
                mixBlock();
            }
        }

        void addRow(int[] row, int from, int n) {
            for (int i = 0; i < n; i++) {
                addByte(row[from + i]);
            }
        }

        void finish() {
            long bits = 8L * length;
            addByte(128);
            int zeros = (BLOCK_BYTES - LONG_BYTES - length) & (BLOCK_BYTES - 1);
            for (int i = 0; i < zeros; i++) {
                addByte(0);
            }
            for (int i = 0; i < LONG_BYTES; i++) {
                addByte((int) (bits >>> (56 - 8 * i)));
            }
        }

        int resultByte(int i) {
            return (sums[(i >> 2) & 7] >>> (24 - 8 * (i & 3))) & LOWEST_EIGHT_BITS;
        }

        boolean resultIsAt(int[] row, int start) {
            for (int i = 0; i < HASH_BYTES; i++) {
                if (row[start + i] != resultByte(i)) {
                    return false;
                }
            }
            return true;
        }

        void copyResult(int[] row, int start) {
            for (int i = 0; i < HASH_BYTES; i++) {
                row[start + i] = resultByte(i);
            }
        }

        private void spreadWords() {
            for (int t = 16; t < 64; t++) {
                int x = words[t - 15];
                int y = words[t - 2];
                int s0 = (x >>> 7 | x << 25) ^ (x >>> 18 | x << 14) ^ (x >>> 3);
                int s1 = (y >>> 17 | y << 15) ^ (y >>> 19 | y << 13) ^ (y >>> 10);
                words[t] = words[t - 16] + s0 + words[t - 7] + s1;
            }
        }

        private void mixBlock() {
            int a = sums[0];
            int b = sums[1];
            int c = sums[2];
            int d = sums[3];
            int e = sums[4];
            int f = sums[5];
            int g = sums[6];
            int h = sums[7];
            for (int t = 0; t < 64; t++) {
                int turnedE = (e >>> 6 | e << 26) ^ (e >>> 11 | e << 21) ^ (e >>> 25 | e << 7);
                int turnedA = (a >>> 2 | a << 30) ^ (a >>> 13 | a << 19) ^ (a >>> 22 | a << 10);
                int t1 = h + turnedE + ((e & f) ^ (~e & g)) + CONSTANTS[t] + words[t];
                int t2 = turnedA + ((a & b) ^ (a & c) ^ (b & c));
                h = g;
                g = f;
                f = e;
                e = d + t1;
                d = c;
                c = b;
                b = a;
                a = t1 + t2;
            }
            sums[0] += a;
            sums[1] += b;
            sums[2] += c;
            sums[3] += d;
            sums[4] += e;
            sums[5] += f;
            sums[6] += g;
            sums[7] += h;
        }
    }
}
