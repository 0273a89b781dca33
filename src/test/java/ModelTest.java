import java.util.Random;

/** Runs of 512 calls, the same every time, on objects of every size, held against the model. */
public final class ModelTest {
    private static final int[] EDGES = {
        Integer.MIN_VALUE, Integer.MIN_VALUE + 1, -256, -65, -64, -33, -32, -2, -1, 0, 1, 2, 3, 4, 6, 7, 8, 9,
        31, 32, 33, 55, 56, 63, 64, 65, 127, 255, 256, 511, Integer.MAX_VALUE - 1, Integer.MAX_VALUE
    };

    private final Checks checks = new Checks("ModelTest");
    private SealedPages x;
    private Model m;
    private Random random;
    private int lastPlace = -1;
    private int lastBits;

    public static void main(String[] args) {
        ModelTest test = new ModelTest();
        int[] odd = {0, -1, 65, 66, 256, 257, Integer.MIN_VALUE, Integer.MAX_VALUE};
        for (int pages : odd) {
            test.run(pages, 1);
        }
        for (int pages = 1; pages <= 64; pages++) {
            for (int seed = 0; seed < 6; seed++) {
                test.run(pages, 1000L * pages + seed);
            }
        }
        test.checks.end();
    }

    private void run(int pages, long seed) {
        x = new SealedPages(pages);
        m = new Model(pages);
        random = new Random(seed);
        lastPlace = -1;
        sameState("new " + pages);
        for (int call = 0; call < 512 && checks.allRight(); call++) {
            oneCall("pages " + pages + " seed " + seed + " call " + call + ": ");
        }
        sameState("end of pages " + pages + " seed " + seed);
    }

    private void sameState(String when) {
        checks.dueRow(when + " disk", Checks.diskOf(x), m.disk);
        checks.dueRow(when + " root", Checks.rootOf(x), m.root);
        checks.dueRow(when + " draft", Checks.draftOf(x), m.draft);
    }

    /** Mostly in 0 .. bound - 1, at times an edge or just outside. */
    private int below(int bound) {
        int kind = random.nextInt(20);
        if (kind == 0) {
            return EDGES[random.nextInt(EDGES.length)];
        }
        if (kind == 1) {
            return bound - 1 + random.nextInt(3);
        }
        return random.nextInt(Math.max(1, bound));
    }

    private int anyInt() {
        return random.nextInt(3) == 0 ? EDGES[random.nextInt(EDGES.length)] : random.nextInt();
    }

    private void oneCall(String at) {
        switch (random.nextInt(28)) {
            case 0 -> { int i = below(64), v = anyInt(); checks.due(at + "put " + i + " " + v, x.put(i, v), m.put(i, v)); }
            case 1, 2 -> { int k = below(8); long v = random.nextLong(); checks.due(at + "fill " + k + " " + v, x.fill(k, v), m.fill(k, v)); }
            case 3 -> { int i = below(64); checks.due(at + "draft " + i, x.draft(i), m.draft(i)); }
            case 4, 5 -> { int p = below(m.pages); checks.due(at + "read " + p, x.read(p), m.read(p)); }
            case 6, 7, 8 -> { int p = below(m.pages); checks.due(at + "write " + p, x.write(p), m.write(p)); }
            case 9 -> { if (random.nextInt(3) == 0) checks.due(at + "seal", x.seal(), m.seal()); }
            case 10 -> checks.due(at + "size", x.size(), m.size());
            case 11 -> { int i = below(m.size()); checks.due(at + "disk " + i, x.disk(i), m.disk(i)); }
            case 12, 13 -> alter(at);
            case 14 -> carry(at);
            case 15 -> { int i = below(32); checks.due(at + "root " + i, x.root(i), m.root(i)); }
            case 16, 17 -> { int p = below(m.pages); checks.due(at + "fault " + p, x.fault(p), m.fault(p)); }
            case 18 -> checks.due(at + "held", x.held(), m.held());
            case 19 -> checks.due(at + "first", x.first(), m.first());
            case 20 -> checks.due(at + "levels", x.levels(), m.levels());
            case 21 -> { int l = below(m.levels()), k = below(m.pages); checks.due(at + "node " + l + " " + k, x.node(l, k), m.node(l, k)); }
            case 22 -> { int p = below(m.pages); checks.due(at + "proof " + p, x.proof(p), m.proof(p)); }
            case 23 -> { int p = below(m.pages), k = below(7), i = below(32); checks.due(at + "beside " + p + " " + k + " " + i, x.beside(p, k, i), m.beside(p, k, i)); }
            case 24 -> { if (m.held() == m.pages || random.nextInt(4) == 0) checks.due(at + "keep", x.keep(), m.keep()); }
            case 25 -> { if (random.nextInt(2) == 0) checks.due(at + "back", x.back(), m.back()); else checks.due(at + "open", x.open(), m.open()); }
            case 26 -> { int n = below(65), i = below(32); checks.due(at + "hash " + n + " " + i, x.hash(n, i), m.hash(n, i)); }
            default -> { int w = random.nextInt(3) == 0 ? anyInt() : random.nextInt(5); checks.due(at + "told " + w, x.told(w), m.told(w)); }
        }
    }

    /** Half the time the last change is undone, so that images hold again and again. */
    private void alter(String at) {
        int place = below(m.size());
        int bits = anyInt();
        if (lastPlace >= 0 && random.nextInt(2) == 0) {
            place = lastPlace;
            bits = lastBits;
            lastPlace = -1;
        } else {
            lastPlace = place;
            lastBits = bits;
        }
        checks.due(at + "alter " + place + " " + bits, x.alter(place, bits), m.alter(place, bits));
    }

    private void carry(String at) {
        int from = below(m.size());
        int to = random.nextInt(3) == 0 ? below(m.size()) : Math.max(0, from - 40) + random.nextInt(80);
        int n = random.nextInt(3) == 0 ? below(m.size()) : random.nextInt(100);
        checks.due(at + "carry " + from + " " + to + " " + n, x.carry(from, to, n), m.carry(from, to, n));
    }
}
