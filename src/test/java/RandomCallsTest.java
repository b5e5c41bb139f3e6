import java.util.Random;

/**
 * All promises at once: runs of 512 calls from a fixed seed, against the model; a twin that is spared the
 * refused calls answers the others alike, so that a refused call changes nothing.
 */
public final class RandomCallsTest {
    private static final int RUNS = 60;
    private static final int CALLS = 512;
    private static final int[] WILD = {0, -1, 1, 31, 32, 63, 64, 100, 101, 255, 4095, 4096, Integer.MIN_VALUE,
        Integer.MAX_VALUE};

    private final Due due;
    private final Random random;
    private final int version;
    private final ZObjects x;
    private final ZObjects twin;
    private final Model model;
    private final String run;

    private RandomCallsTest(Due due, int version, long seed) {
        this.due = due;
        this.version = version;
        random = new Random(seed);
        run = "version " + version + ", seed " + seed;
        x = new ZObjects(version);
        twin = new ZObjects(version);
        model = new Model(version);
    }

    public static void main(String[] args) {
        Due due = new Due("RandomCallsTest");
        for (int version = 1; version <= 8; version++) {
            for (int i = 0; i < RUNS; i++) {
                new RandomCallsTest(due, version, 1000L * version + i).calls();
            }
        }
        due.end();
    }

    private void calls() {
        boolean manyObjects = random.nextInt(4) == 0;
        for (int i = 0; i < CALLS; i++) {
            boolean isEarly = i < 160;
            int kind = random.nextInt(100);
            if (isEarly && kind < 60) {
                build(manyObjects && kind < 50 ? 1 : kind % 4);
            } else if (kind < 25) {
                writeOver();
            } else {
                ask(random.nextInt(20));
            }
        }
    }

    private void check(String call, long got, long want, long twins) {
        due.is(run + ": " + call, got, want);
        if (want >= 0) {
            due.is(run + ", twin: " + call, twins, want);
        }
    }

    private int wild(int usual) {
        return random.nextInt(25) == 0 ? WILD[random.nextInt(WILD.length)] : usual;
    }

    private int some() {
        return wild(1 + random.nextInt(Math.max(1, model.count())));
    }

    /** A call that is refused is not told to the twin; which ones are, the model knows. */
    private void build(int what) {
        if (what == 1) {
            int want = model.object();
            check("object()", x.object(), want, want < 0 ? want : twin.object());
            return;
        }
        int n = wild(random.nextInt(40) == 0 ? 0 : 1 + random.nextInt(8));
        long w = rowBytes();
        int want = model.type(w, n);
        check("type(" + w + ", " + n + ")", x.type(w, n), want, want < 0 ? want : twin.type(w, n));
    }

    /** Bytes that are often small, so that names are short, rows end and sizes fit. */
    private long rowBytes() {
        long w = 0;
        for (int i = 0; i < 8; i++) {
            w = w << 8 | (random.nextInt(3) == 0 ? random.nextInt(256) : random.nextInt(70));
        }
        return w;
    }

    private void writeOver() {
        int object = 1 + random.nextInt(Math.max(1, model.count()));
        int wide = Story.isWide(version) ? 1 : 0;
        int a;
        int v = random.nextInt(256);
        switch (random.nextInt(6)) {
            case 0:
                a = Story.entry(version, object) + (wide == 1 ? 7 + 2 * random.nextInt(3) : 4 + random.nextInt(3));
                v = wild(random.nextInt(model.count() + 2));
                break;
            case 1:
                a = Story.tableAt(version, object) + random.nextInt(2);
                v = random.nextBoolean() ? random.nextInt(16) : v;
                break;
            case 2:
                a = 64 + random.nextInt(192);
                v = a % 2 == 0 ? random.nextInt(10) : v;
                break;
            case 3:
                a = 1792 + random.nextInt(300);
                break;
            case 4:
                a = 4096 - random.nextInt(12);
                break;
            default:
                a = wild(random.nextInt(4096));
                break;
        }
        int want = model.poke(a, v);
        check("poke(" + a + ", " + v + ")", x.poke(a, v), want, want < 0 ? want : twin.poke(a, v));
    }

    private void ask(int what) {
        int o = some();
        int k = wild(random.nextInt(Story.defaults(version) + 1));
        int p = wild(random.nextBoolean() ? k : Math.max(0, model.next(o, 0)));
        int v = random.nextInt();
        switch (what) {
            case 0: {
                int to = some();
                int want = model.move(o, to);
                check("move(" + o + ", " + to + ")", x.move(o, to), want, want < 0 ? want : twin.move(o, to));
                break;
            }
            case 1: {
                int want = model.remove(o);
                check("remove(" + o + ")", x.remove(o), want, want < 0 ? want : twin.remove(o));
                break;
            }
            case 2: {
                int act = wild(random.nextInt(3));
                int want = model.attribute(o, k, act);
                check("attribute(" + o + ", " + k + ", " + act + ")", x.attribute(o, k, act), want,
                        want < 0 ? want : twin.attribute(o, k, act));
                break;
            }
            case 3: {
                int want = model.put(o, p, v);
                check("put(" + o + ", " + p + ", " + v + ")", x.put(o, p, v), want, want < 0 ? want : twin.put(o, p, v));
                break;
            }
            case 4: {
                int want = model.fallback(k, v);
                check("fallback(" + k + ", " + v + ")", x.fallback(k, v), want, want < 0 ? want : twin.fallback(k, v));
                break;
            }
            case 5: {
                boolean is = random.nextBoolean();
                check("strict(" + is + ")", x.strict(is) ? 1 : 0, model.strict(is), twin.strict(is) ? 1 : 0);
                break;
            }
            default:
                look(what, o, k, p);
                break;
        }
    }

    private void look(int what, int o, int k, int p) {
        int i = wild(random.nextInt(12));
        int a = wild(random.nextInt(4098));
        switch (what) {
            case 6: check("parent(" + o + ")", x.parent(o), model.link(o, 0), twin.parent(o)); break;
            case 7: check("sibling(" + o + ")", x.sibling(o), model.link(o, 1), twin.sibling(o)); break;
            case 8: check("child(" + o + ")", x.child(o), model.link(o, 2), twin.child(o)); break;
            case 9: check("property(" + o + ", " + p + ")", x.property(o, p), model.property(o, p), twin.property(o, p));
                break;
            case 10: check("next(" + o + ", " + p + ")", x.next(o, p), model.next(o, p), twin.next(o, p)); break;
            case 11: check("address(" + o + ", " + p + ")", x.address(o, p), model.address(o, p), twin.address(o, p));
                break;
            case 12: check("length(" + a + ")", x.length(a), model.length(a), twin.length(a)); break;
            case 13:
                int of = Math.max(0, model.named(o));
                int at = wild(random.nextInt(of + 2));
                check("name(" + o + ", " + at + ")", x.name(o, at), model.name(o, at), twin.name(o, at));
                break;
            case 14: check("named(" + o + ")", x.named(o), model.named(o), twin.named(o)); break;
            case 15: check("within(" + o + ", " + i + ")", x.within(o, i), model.within(o, i), twin.within(o, i)); break;
            case 16: check("judge()", x.judge(), model.judge(), twin.judge()); break;
            case 17:
                int f = wild(random.nextInt(model.judge() + 1));
                check("ring(" + f + ")", x.ring(f), model.ring(f), twin.ring(f));
                break;
            case 18: check("peek(" + a + ")", x.peek(a), model.peek(a), twin.peek(a)); break;
            default: check("count()", x.count(), model.count(), twin.count()); break;
        }
    }
}
