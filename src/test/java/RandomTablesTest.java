import java.util.Random;

/**
 * Tables that are made to be read: names whose signs are mostly shifts, own ones and abbreviations, properties of
 * every form, rows of links that are mostly written over. From fixed seeds, against the model.
 */
public final class RandomTablesTest {
    private static final int RUNS = 16;
    private static final int CALLS = 512;
    private static final int ROW = 250;

    private final Due due;
    private final Random random;
    private final int version;
    private final ZObjects x;
    private final Model model;
    private int calls;

    private RandomTablesTest(Due due, String kind, int version, long seed) {
        this.due = due;
        this.version = version;
        random = new Random(seed);
        x = new ZObjects(version);
        model = new Model(version);
        due.about(kind + ", version " + version + ", seed " + seed + ": ");
    }

    public static void main(String[] args) {
        Due due = new Due("RandomTablesTest");
        for (int version = 1; version <= 8; version++) {
            for (int i = 0; i < RUNS; i++) {
                long seed = 1000L * version + i;
                new RandomTablesTest(due, "names", version, seed).names();
                new RandomTablesTest(due, "properties", version, seed).properties();
                new RandomTablesTest(due, "trees", version, seed).trees();
            }
        }
        due.about("");
        due.end();
    }

    private void is(String call, int got, int want) {
        calls++;
        due.is(call, got, want);
        if (calls > CALLS) {
            throw new IllegalStateException("a story is used for 512 calls at most");
        }
    }

    private void make(int[] table, int size) {
        for (int from = 0; from < size; from += 8) {
            int many = Math.min(8, size - from);
            long w = 0;
            for (int i = from; i < from + many; i++) {
                w = w << 8 | table[i];
            }
            is("type(" + w + ", " + many + ")", x.type(w, many), model.type(w, many));
        }
        is("object()", x.object(), model.object());
    }

    private void poke(int a, int v) {
        is("poke(" + a + ", " + v + ")", x.poke(a, v), model.poke(a, v));
    }

    private void pokeWord(int a, int v) {
        poke(a, v >> 8);
        poke(a + 1, v);
    }

    private void names() {
        for (int i = 0; i < 3; i++) {
            nameTable(i == 0 ? 1 + random.nextInt(ROW - 2) : 1 + random.nextInt(40));
        }
        for (int i = 0; i < 12; i++) {
            int k = random.nextInt(version == 2 ? 32 : 96);
            int address = random.nextInt(12) == 0 ? 4096 - 2 * random.nextInt(3) : 1792 + 2 * random.nextInt(140);
            pokeWord(64 + 2 * k, address / 2 + (random.nextInt(6) == 0 ? 32768 : 0));
        }
        if (random.nextInt(4) == 0) {
            beginAtTheEnd(1);
        }
        for (int object = 3; object >= 1; object--) {
            int many = model.named(object);
            is("named(" + object + ")", x.named(object), many);
            for (int i = -1; i <= many && calls < CALLS - 8; i++) {
                is("name(" + object + ", " + i + ")", x.name(object, i), model.name(object, i));
            }
        }
    }

    /** A table whose name goes on beyond MEMORY. */
    private void beginAtTheEnd(int object) {
        int table = 4095 - random.nextInt(20);
        pokeWord(Story.tableAt(version, object), table);
        poke(table, random.nextInt(256));
        for (int a = table + 1; a < 4096; a++) {
            poke(a, random.nextInt(128));
        }
    }

    private void nameTable(int bytes) {
        int[] table = new int[ROW];
        int words = (bytes - 1) / 2;
        table[0] = random.nextInt(6) == 0 ? random.nextInt(256) : words;
        boolean hasOwnAtTheEnd = random.nextInt(4) == 0;
        for (int i = 0; i < words; i++) {
            int word = random.nextInt(30) == 0 ? 1 : 0;
            for (int k = 0; k < 3; k++) {
                int own = hasOwnAtTheEnd && i == words - 1 ? 3 - k : 0;
                word = word << 5 | (own == 3 ? 5 : own == 2 ? 6 : sign());
            }
            table[1 + 2 * i] = word >> 8;
            table[2 + 2 * i] = word & 255;
        }
        make(table, 1 + 2 * words);
    }

    /** Often one that is no letter in each alphabet. */
    private int sign() {
        return random.nextInt(3) == 0 ? random.nextInt(32) : random.nextInt(8);
    }

    private void properties() {
        for (int i = 0; i < 2; i++) {
            propertyTable();
        }
        askProperties(1);
        askProperties(2);
        // The bytes of the tables are written over, and one of them begins elsewhere.
        for (int i = 0; i < 6; i++) {
            poke(1792 + random.nextInt(120), random.nextInt(256));
        }
        int anywhere = random.nextBoolean() ? 4096 - random.nextInt(8) : 1792 + random.nextInt(40);
        pokeWord(Story.tableAt(version, 2), anywhere);
        for (int a = 4088; a < 4096; a++) {
            poke(a, random.nextInt(3) == 0 ? random.nextInt(256) : random.nextInt(3));
        }
        if (random.nextInt(3) == 0) {
            pokeWord(Story.tableAt(version, 2), 4094);
            poke(4094, 0);
            poke(4095, random.nextInt(256));
        }
        askProperties(1);
        askProperties(2);
        is("judge()", x.judge(), model.judge());
    }

    private void propertyTable() {
        int[] table = new int[ROW];
        int at = 1;
        int number = Story.defaults(version) + 1;
        while (number > 0 && at < 150) {
            number = random.nextInt(12) == 0 ? number + 1 : number - 1 - random.nextInt(6);
            int size = random.nextInt(3) == 0 ? 1 + random.nextInt(8) : 1 + random.nextInt(2);
            if (number > 0) {
                at = propertyHead(table, at, number, size);
                for (int i = 0; i < size; i++) {
                    table[at++] = random.nextInt(256);
                }
            }
        }
        make(table, at + 1);
    }

    private int propertyHead(int[] table, int at, int number, int size) {
        if (!Story.isWide(version)) {
            table[at] = 32 * (size - 1) + number % 32;
            return at + 1;
        }
        if (size <= 2 && random.nextInt(3) != 0) {
            table[at] = 64 * (size - 1) + number % 64;
            return at + 1;
        }
        table[at] = 128 + 64 * random.nextInt(2) + number % 64;
        table[at + 1] = 64 * random.nextInt(4) + size;
        return at + 2;
    }

    private void askProperties(int object) {
        int n = 0;
        for (int i = 0; i < 10; i++) {
            is("next(" + object + ", " + n + ")", x.next(object, n), model.next(object, n));
            n = random.nextInt(6) == 0 ? random.nextInt(66) : Math.max(0, model.next(object, n));
            int v = random.nextInt();
            is("property(" + object + ", " + n + ")", x.property(object, n), model.property(object, n));
            is("put(" + object + ", " + n + ", " + v + ")", x.put(object, n, v), model.put(object, n, v));
            is("property(" + object + ", " + n + ")", x.property(object, n), model.property(object, n));
            int a = model.address(object, n);
            is("address(" + object + ", " + n + ")", x.address(object, n), a);
            is("length(" + a + ")", x.length(a), model.length(a));
        }
    }

    private void trees() {
        int many = random.nextInt(4) == 0 ? 100 : 2 + random.nextInt(8);
        for (int i = 0; i < many; i++) {
            is("object()", x.object(), model.object());
        }
        while (calls < CALLS - 12) {
            int object = 1 + random.nextInt(many);
            int to = 1 + random.nextInt(random.nextBoolean() ? Math.min(5, many) : many);
            switch (random.nextInt(8)) {
                case 0:
                    writeOver(object, random.nextInt(20) == 0 ? random.nextInt(256) : random.nextInt(many + 1));
                    break;
                case 1:
                    is("remove(" + object + ")", x.remove(object), model.remove(object));
                    break;
                case 2:
                    boolean is = random.nextBoolean();
                    is("strict(" + is + ")", x.strict(is) ? 1 : 0, model.strict(is));
                    break;
                case 3:
                    lookAt(object, to);
                    break;
                default:
                    is("move(" + object + ", " + to + ")", x.move(object, to), model.move(object, to));
                    break;
            }
        }
    }

    private void writeOver(int object, int to) {
        int link = random.nextInt(3);
        poke(Story.entry(version, object) + (Story.isWide(version) ? 7 + 2 * link : 4 + link), to);
    }

    private void lookAt(int object, int to) {
        is("parent(" + object + ")", x.parent(object), model.link(object, 0));
        is("sibling(" + object + ")", x.sibling(object), model.link(object, 1));
        is("child(" + to + ")", x.child(to), model.link(to, 2));
        for (int i = 0; i < 3; i++) {
            int k = random.nextInt(8) == 0 ? random.nextInt(101) : random.nextInt(5);
            is("within(" + to + ", " + k + ")", x.within(to, k), model.within(to, k));
        }
        int many = model.judge();
        is("judge()", x.judge(), many);
        int i = random.nextInt(many + 1);
        is("ring(" + i + ")", x.ring(i), model.ring(i));
    }
}
