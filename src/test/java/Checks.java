import java.security.MessageDigest;
import java.security.NoSuchAlgorithmException;
import java.util.function.Consumer;
import java.util.function.ToIntFunction;

/** What the tests share: counting wrong answers, and the JDK's own SHA-256 to hold HASH against. */
final class Checks {
    private final String test;
    private int calls;
    private int wrong;

    Checks(String test) {
        this.test = test;
    }

    void due(String call, long got, long want) {
        calls++;
        if (got != want) {
            wrong++;
            if (wrong <= 40) {
                System.out.println(test + ": " + call + " answered " + got + ", due is " + want);
            }
        }
    }

    boolean allRight() {
        return wrong == 0;
    }

    void end() {
        System.out.println(test + ": " + calls + " answers, " + wrong + " not as due");
        if (wrong != 0 || calls == 0) {
            System.exit(1);
        }
    }

    static int[] sha(int... bytes) {
        byte[] row = new byte[bytes.length];
        for (int i = 0; i < row.length; i++) {
            row[i] = (byte) bytes[i];
        }
        try {
            byte[] result = MessageDigest.getInstance("SHA-256").digest(row);
            int[] answer = new int[result.length];
            for (int i = 0; i < answer.length; i++) {
                answer[i] = result[i] & 255;
            }
            return answer;
        } catch (NoSuchAlgorithmException e) {
            throw new IllegalStateException(e);
        }
    }

    static int[] join(int[]... rows) {
        int length = 0;
        for (int[] row : rows) {
            length += row.length;
        }
        int[] all = new int[length];
        int at = 0;
        for (int[] row : rows) {
            System.arraycopy(row, 0, all, at, row.length);
            at += row.length;
        }
        return all;
    }

    static int[] rootOf(SealedPages x) {
        int[] bytes = new int[32];
        for (int i = 0; i < bytes.length; i++) {
            bytes[i] = x.root(i);
        }
        return bytes;
    }

    static int[] draftOf(SealedPages x) {
        int[] bytes = new int[64];
        for (int i = 0; i < bytes.length; i++) {
            bytes[i] = x.draft(i);
        }
        return bytes;
    }

    void dueRow(String what, int[] got, int[] want) {
        due(what + " length", got.length, want.length);
        for (int i = 0; i < Math.min(got.length, want.length); i++) {
            due(what + " byte " + i, got[i], want[i]);
        }
    }

    /** The call answers this after that run, and leaves all that can be seen as it was. */
    void leaves(String call, int pages, Consumer<SealedPages> run, ToIntFunction<SealedPages> made, int want) {
        String name = call + " of " + pages;
        due(name, Seen.answer(pages, run, made), want);
        dueRow("all after " + name, Seen.after(pages, run.andThen(made::applyAsInt)), Seen.after(pages, run));
    }

    /** NONE, and all as it was: where every way holds and something is kept, and where neither is so. */
    void refused(String call, int pages, ToIntFunction<SealedPages> made) {
        leaves(call + " on a sealed image", pages, Seen::busy, made, SealedPages.NONE);
        leaves(call + " on a broken image", pages, Seen::broken, made, SealedPages.NONE);
    }

    static int[] nodeOf(SealedPages x, int level, int k) {
        int start = x.node(level, k);
        int[] bytes = new int[32];
        for (int i = 0; i < bytes.length; i++) {
            bytes[i] = x.disk(start + i);
        }
        return bytes;
    }

    /** Alters a stretch of the disk, where this was, to that; one call a byte, for the 512. */
    static void lay(SealedPages x, int start, int n, int[] diskWas, int[] diskWanted) {
        for (int i = start; i < start + n; i++) {
            x.alter(i, diskWas[i] ^ diskWanted[i]);
        }
    }

    static int[] bytesOf(String hexadecimal) {
        int[] bytes = new int[hexadecimal.length() / 2];
        for (int i = 0; i < bytes.length; i++) {
            bytes[i] = Integer.parseInt(hexadecimal.substring(2 * i, 2 * i + 2), 16);
        }
        return bytes;
    }
}
