import java.util.ArrayList;
import java.util.Arrays;
import java.util.List;

/**
 * The document again, written apart from the program: the tree is a list of levels with places,
 * every way is checked by itself, and HASH is the JDK's SHA-256.
 */
final class Model {
    final int pages;
    final List<int[]> places = new ArrayList<>();
    int[] disk;
    int[] root = new int[32];
    int[] draft = new int[64];
    int[] keptDisk;
    int[] keptRoot;
    int given;
    int written;
    int faults;

    Model(int wanted) {
        pages = wanted < 1 ? 1 : wanted > 64 ? 64 : wanted;
        int at = 8 + 64 * pages;
        int count = pages;
        while (true) {
            int[] level = new int[count];
            for (int k = 0; k < count; k++) {
                level[k] = at;
                at += 32;
            }
            places.add(level);
            if (count == 1) {
                break;
            }
            count = count / 2 + count % 2;
        }
        disk = new int[at];
        seal();
    }

    int put(int i, int v) {
        if (i < 0 || i > 63) {
            return -1;
        }
        int was = draft[i];
        draft[i] = Math.floorMod(v, 256);
        return was;
    }

    int fill(int k, long v) {
        if (k < 0 || k > 7) {
            return -1;
        }
        long rest = v;
        for (int i = 7; i >= 0; i--) {
            draft[8 * k + i] = (int) Math.floorMod(rest, 256L);
            rest = Math.floorDiv(rest, 256L);
        }
        return 8 * k;
    }

    int draft(int i) {
        return i < 0 || i > 63 ? -1 : draft[i];
    }

    int read(int page) {
        int f = fault(page);
        if (f > 0) {
            faults++;
        }
        if (f == 0) {
            draft = Arrays.copyOfRange(disk, 8 + 64 * page, 72 + 64 * page);
            given++;
        }
        return f;
    }

    int write(int page) {
        int f = fault(page);
        if (f > 0) {
            faults++;
        }
        if (f == 0) {
            System.arraycopy(draft, 0, disk, 8 + 64 * page, 64);
            int k = page;
            for (int level = 0; level < places.size(); level++) {
                set(level, k);
                k /= 2;
            }
            root = rootNow();
            written++;
        }
        return f;
    }

    int seal() {
        System.arraycopy(headNow(), 0, disk, 0, 8);
        int count = 0;
        for (int level = 0; level < places.size(); level++) {
            for (int k = 0; k < places.get(level).length; k++) {
                set(level, k);
                count++;
            }
        }
        root = rootNow();
        return count;
    }

    int size() {
        return disk.length;
    }

    int disk(int i) {
        return i < 0 || i >= disk.length ? -1 : disk[i];
    }

    int alter(int i, int v) {
        if (i < 0 || i >= disk.length) {
            return -1;
        }
        int was = disk[i];
        disk[i] = (was ^ v) & 255;
        return was;
    }

    int carry(int from, int to, int n) {
        if (n < 0 || from < 0 || to < 0
                || (long) from + n > disk.length || (long) to + n > disk.length) {
            return -1;
        }
        int[] before = disk.clone();
        for (int i = 0; i < n; i++) {
            disk[to + i] = before[from + i];
        }
        return n;
    }

    int root(int i) {
        return i < 0 || i > 31 ? -1 : root[i];
    }

    int fault(int page) {
        if (page < 0 || page >= pages) {
            return -1;
        }
        if (!Arrays.equals(Arrays.copyOf(disk, 8), headNow())) {
            return 1;
        }
        if (!Arrays.equals(root, rootNow())) {
            return 2;
        }
        int fault = 0;
        int k = page;
        for (int level = 0; level < places.size(); level++) {
            int at = places.get(level)[k];
            if (!Arrays.equals(Arrays.copyOfRange(disk, at, at + 32), nodeNow(level, k))) {
                fault = 3 + level;
            }
            k /= 2;
        }
        return fault;
    }

    int held() {
        int count = 0;
        for (int page = 0; page < pages; page++) {
            count += fault(page) == 0 ? 1 : 0;
        }
        return count;
    }

    int first() {
        for (int page = 0; page < pages; page++) {
            if (fault(page) != 0) {
                return page;
            }
        }
        return -1;
    }

    int levels() {
        return places.size();
    }

    int node(int level, int k) {
        return level < 0 || level >= places.size() || k < 0 || k >= places.get(level).length
                ? -1 : places.get(level)[k];
    }

    int proof(int page) {
        return page < 0 || page >= pages ? -1 : nodesBeside(page).size();
    }

    int beside(int page, int k, int i) {
        if (page < 0 || page >= pages || i < 0 || i > 31) {
            return -1;
        }
        List<Integer> all = nodesBeside(page);
        return k < 0 || k >= all.size() ? -1 : disk[all.get(k) + i];
    }

    int keep() {
        keptDisk = disk.clone();
        keptRoot = root.clone();
        return disk.length;
    }

    int back() {
        if (keptDisk == null) {
            return -1;
        }
        int differed = 0;
        for (int i = 0; i < disk.length; i++) {
            differed += disk[i] == keptDisk[i] ? 0 : 1;
        }
        disk = keptDisk.clone();
        return differed;
    }

    int open() {
        int differed = back();
        if (differed >= 0) {
            root = keptRoot.clone();
        }
        return differed;
    }

    int hash(int n, int i) {
        return n < 0 || n > 64 || i < 0 || i > 31 ? -1 : Checks.sha(Arrays.copyOf(draft, n))[i];
    }

    int told(int what) {
        return what == 0 ? pages : what == 1 ? given : what == 2 ? written : what == 3 ? faults : -1;
    }

    private int[] headNow() {
        return new int[] {83, 73, pages, 64, 0, 0, 0, 0};
    }

    private int[] rootNow() {
        int last = disk.length - 32;
        return Checks.sha(Checks.join(Arrays.copyOf(disk, 8), Arrays.copyOfRange(disk, last, last + 32)));
    }

    private int[] nodeNow(int level, int k) {
        int[] start = {level, k};
        if (level == 0) {
            return Checks.sha(Checks.join(start, Arrays.copyOfRange(disk, 8 + 64 * k, 72 + 64 * k)));
        }
        int[] below = places.get(level - 1);
        int left = below[2 * k];
        int[] first = Arrays.copyOfRange(disk, left, left + 32);
        if (2 * k + 1 == below.length) {
            return Checks.sha(Checks.join(start, first));
        }
        int right = below[2 * k + 1];
        return Checks.sha(Checks.join(start, first, Arrays.copyOfRange(disk, right, right + 32)));
    }

    private void set(int level, int k) {
        System.arraycopy(nodeNow(level, k), 0, disk, places.get(level)[k], 32);
    }

    private List<Integer> nodesBeside(int page) {
        List<Integer> all = new ArrayList<>();
        int k = page;
        for (int level = 0; level + 1 < places.size(); level++) {
            int other = k % 2 == 0 ? k + 1 : k - 1;
            if (other < places.get(level).length) {
                all.add(places.get(level)[other]);
            }
            k /= 2;
        }
        return all;
    }
}
