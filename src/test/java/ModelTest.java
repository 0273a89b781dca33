import java.util.ArrayList;
import java.util.List;
import java.util.Random;
import java.util.function.ToIntFunction;

/**
 * Runs of calls, the same every time, on objects of every size, held against the model: long ones up
 * to the 512th call, and shorter ones that are made again to look at all that they leave.
 */
public final class ModelTest {
    private static final int LONG_RUN = 512;
    /** With the looks of Seen this stays within 512 calls. */
    private static final int SHORT_RUN = 200;

    private static final int[] EDGES = {
        Integer.MIN_VALUE, Integer.MIN_VALUE + 1, -256, -65, -64, -33, -32, -2, -1, 0, 1, 2, 3, 4, 6, 7, 8, 9,
        31, 32, 33, 55, 56, 63, 64, 65, 127, 255, 256, 511, Integer.MAX_VALUE - 1, Integer.MAX_VALUE
    };

    /** One call with its arguments, as it is made on the program and on the model. */
    private record Call(String name, ToIntFunction<SealedPages> made, ToIntFunction<Model> wanted) {
    }

    private final Checks checks = new Checks("ModelTest");
    private Model m;
    private Random random;
    private int lastPlace = -1;
    private int lastBits;

    public static void main(String[] args) {
        ModelTest test = new ModelTest();
        int[] odd = {0, -1, 65, 66, 256, 257, Integer.MIN_VALUE, Integer.MAX_VALUE};
        for (int pages : odd) {
            test.run(pages, 1, LONG_RUN);
            test.dueAllAfter(pages, test.run(pages, 2, SHORT_RUN));
        }
        for (int pages = 1; pages <= 64; pages++) {
            for (int seed = 0; seed < 6; seed++) {
                test.run(pages, 1000L * pages + seed, LONG_RUN);
            }
            for (int seed = 6; seed < 9; seed++) {
                test.dueAllAfter(pages, test.run(pages, 1000L * pages + seed, SHORT_RUN));
            }
        }
        test.checks.end();
    }

    /** Makes the run, each answer held against the model's, and tells the calls that it made. */
    private List<Call> run(int pages, long seed, int length) {
        SealedPages x = new SealedPages(pages);
        m = new Model(pages);
        random = new Random(seed);
        lastPlace = -1;
        List<Call> calls = new ArrayList<>();
        while (calls.size() < length && checks.allRight()) {
            Call call = nextCall();
            calls.add(call);
            String at = "pages " + pages + " seed " + seed + " call " + calls.size() + ": ";
            checks.due(at + call.name, call.made.applyAsInt(x), call.wanted.applyAsInt(m));
        }
        return calls;
    }

    /** The model is as the run left it. */
    private void dueAllAfter(int pages, List<Call> calls) {
        int[] now = allOfModel();
        int[] opened = {m.open()};
        int[] want = Checks.join(now, allOfModel(), opened);
        checks.dueRow("all after a run of " + pages, Seen.after(pages, x -> makeAgain(x, calls)), want);
    }

    private int[] allOfModel() {
        return Checks.join(m.disk, m.root, m.draft, new int[] {m.pages, m.given, m.written, m.faults});
    }

    private static void makeAgain(SealedPages x, List<Call> calls) {
        for (Call call : calls) {
            call.made.applyAsInt(x);
        }
    }

    /** Mostly in 0 .. bound - 1, at times an edge or just outside. */
    private int below(int bound) {
        int kind = random.nextInt(20);
        if (kind == 0) {
            return EDGES[random.nextInt(EDGES.length)];
        }
        if (kind == 1) {
            return bound - 1 + random.nextInt(3);
        }
        return random.nextInt(Math.max(1, bound));
    }

    private int anyInt() {
        return random.nextInt(3) == 0 ? EDGES[random.nextInt(EDGES.length)] : random.nextInt();
    }

    private Call nextCall() {
        int kind = random.nextInt(26);
        return switch (kind) {
            case 0, 1, 2, 3, 4 -> draftCall(kind);
            case 5, 6, 7, 8, 9, 10, 11 -> pageCall(kind);
            case 12, 13, 14, 15, 16, 17 -> diskCall(kind);
            case 18, 19, 20, 21 -> treeCall(kind);
            default -> keptCall(kind);
        };
    }

    private Call draftCall(int kind) {
        int i = below(64);
        int k = below(8);
        int v = anyInt();
        long bytes = random.nextLong();
        int n = below(65);
        int b = below(32);
        return switch (kind) {
            case 0 -> new Call("put " + i + " " + v, x -> x.put(i, v), y -> y.put(i, v));
            case 1, 2 -> new Call("fill " + k + " " + bytes, x -> x.fill(k, bytes), y -> y.fill(k, bytes));
            case 3 -> new Call("draft " + i, x -> x.draft(i), y -> y.draft(i));
            default -> new Call("hash " + n + " " + b, x -> x.hash(n, b), y -> y.hash(n, b));
        };
    }

    private Call pageCall(int kind) {
        int p = below(m.pages);
        return switch (kind) {
            case 5, 6 -> new Call("read " + p, x -> x.read(p), y -> y.read(p));
            case 7, 8, 9 -> new Call("write " + p, x -> x.write(p), y -> y.write(p));
            default -> new Call("fault " + p, x -> x.fault(p), y -> y.fault(p));
        };
    }

    private Call diskCall(int kind) {
        int i = below(m.size());
        int r = below(32);
        return switch (kind) {
            case 12, 13 -> alter();
            case 14 -> carry();
            case 15 -> new Call("disk " + i, x -> x.disk(i), y -> y.disk(i));
            case 16 -> new Call("root " + r, x -> x.root(r), y -> y.root(r));
            default -> random.nextInt(2) == 0 ? new Call("size", SealedPages::size, Model::size)
                    : new Call("levels", SealedPages::levels, Model::levels);
        };
    }

    /** Half the time the last change is undone, so that images hold again and again. */
    private Call alter() {
        boolean undone = lastPlace >= 0 && random.nextInt(2) == 0;
        int place = undone ? lastPlace : below(m.size());
        int bits = undone ? lastBits : anyInt();
        lastPlace = undone ? -1 : place;
        lastBits = bits;
        return new Call("alter " + place + " " + bits, x -> x.alter(place, bits), y -> y.alter(place, bits));
    }

    private Call carry() {
        int from = below(m.size());
        int to = random.nextInt(3) == 0 ? below(m.size()) : Math.max(0, from - 40) + random.nextInt(80);
        int n = random.nextInt(3) == 0 ? below(m.size()) : random.nextInt(100);
        return new Call("carry " + from + " " + to + " " + n, x -> x.carry(from, to, n), y -> y.carry(from, to, n));
    }

    private Call treeCall(int kind) {
        int p = below(m.pages);
        int level = below(m.levels());
        int k = below(7);
        int i = below(32);
        return switch (kind) {
            case 18 -> random.nextInt(2) == 0 ? new Call("held", SealedPages::held, Model::held)
                    : new Call("first", SealedPages::first, Model::first);
            case 19 -> new Call("node " + level + " " + p, x -> x.node(level, p), y -> y.node(level, p));
            case 20 -> new Call("proof " + p, x -> x.proof(p), y -> y.proof(p));
            default -> new Call("beside " + p + " " + k + " " + i, x -> x.beside(p, k, i), y -> y.beside(p, k, i));
        };
    }

    /** An image that holds is kept more often, so that open mends; seal is seldom, so that faults last a while. */
    private Call keptCall(int kind) {
        int what = random.nextInt(3) == 0 ? anyInt() : random.nextInt(5);
        Call told = new Call("told " + what, x -> x.told(what), y -> y.told(what));
        boolean keeps = m.held() == m.pages || random.nextInt(4) == 0;
        return switch (kind) {
            case 22 -> keeps ? new Call("keep", SealedPages::keep, Model::keep) : told;
            case 23 -> random.nextInt(2) == 0 ? new Call("back", SealedPages::back, Model::back)
                    : new Call("open", SealedPages::open, Model::open);
            case 24 -> random.nextInt(3) == 0 ? new Call("seal", SealedPages::seal, Model::seal) : told;
            default -> told;
        };
    }
}
