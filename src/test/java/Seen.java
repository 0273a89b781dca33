import java.util.Arrays;
import java.util.function.Consumer;
import java.util.function.ToIntFunction;

/**
 * All that can be seen of an object after a run of calls. The run is made again on a new object for
 * every few hundred looks, so that no object goes past the 512 calls that the document promises.
 */
final class Seen {
    private static final int LOOKS = 300;

    private Seen() {
    }

    /** Disk, root, draft and counts, then the same after what was kept is opened, then what open answers. */
    static int[] after(int pages, Consumer<SealedPages> run) {
        int[] now = lookAtAll(pages, run);
        int[] opened = lookAtAll(pages, run.andThen(SealedPages::open));
        return Checks.join(now, opened, new int[] {answer(pages, run, SealedPages::open)});
    }

    static int[] diskAfter(int pages, Consumer<SealedPages> run) {
        return Arrays.copyOf(lookAtAll(pages, run), new SealedPages(pages).size());
    }

    static int answer(int pages, Consumer<SealedPages> run, ToIntFunction<SealedPages> call) {
        return call.applyAsInt(made(pages, run));
    }

    static SealedPages made(int pages, Consumer<SealedPages> run) {
        SealedPages x = new SealedPages(pages);
        run.accept(x);
        return x;
    }

    /** Leaves the draft, pages, root, counts and what is kept all at other values than at first; every way holds. */
    static void busy(SealedPages x) {
        int last = x.told(0) - 1;
        for (int k = 0; k < 8; k++) {
            x.fill(k, 0x0123456789abcdefL * (2 * k + 1));
        }
        x.write(0);
        x.keep();
        x.fill(2, -2L);
        x.write(last);
        x.alter(8, 1);
        x.read(0);
        x.alter(8, 1);
        x.read(last);
        x.fill(6, 77L);
    }

    /** As busy, but the last page's way does not hold, and nothing was ever kept. */
    static void broken(SealedPages x) {
        int last = x.told(0) - 1;
        x.fill(0, -3L);
        x.write(last);
        x.fill(7, 99L);
        x.alter(8 + 64 * last + 63, 128);
        x.write(last);
    }

    private static int[] lookAtAll(int pages, Consumer<SealedPages> run) {
        int size = new SealedPages(pages).size();
        int[] all = new int[size + 32 + 64 + 4];
        SealedPages x = null;
        for (int i = 0; i < all.length; i++) {
            if (i % LOOKS == 0) {
                x = made(pages, run);
            }
            all[i] = lookAt(x, size, i);
        }
        return all;
    }

    private static int lookAt(SealedPages x, int size, int i) {
        if (i < size) {
            return x.disk(i);
        }
        if (i < size + 32) {
            return x.root(i - size);
        }
        return i < size + 96 ? x.draft(i - size - 32) : x.told(i - size - 96);
    }
}
