/** The edges that promises 1 to 7 name: a new object, type, object, count, peek, poke, strict. */
public final class MemoryEdgesTest {
    private static final Edges edges = new Edges("MemoryEdgesTest");
    private static final Due due = edges.due();

    public static void main(String[] args) {
        newObject();
        type();
        object();
        small();
        edges.end("Promise 1", "Promise 2", "Promise 3", "Promise 4", "Promise 5", "Promise 6", "Promise 7");
    }

    private static void newObject() {
        edges.of("Promise 1", "No objects", MemoryEdgesTest::noObjects);
        edges.of("Promise 1", "all of MEMORY 0, TOP 1792", MemoryEdgesTest::memoryAndTop);
        edges.of("Promise 1", "Not STRICT", MemoryEdgesTest::notStrict);
        edges.of("Promise 1", "A version below 1 is 1", 1, 1, MemoryEdgesTest::versionsBelow);
        edges.of("Promise 1", "one above 8 is 8", 8, 8, MemoryEdgesTest::versionsAbove);
    }

    private static void type() {
        edges.of("Promise 2", "The n lowest bytes of w, the highest first, come behind THE ROW",
                MemoryEdgesTest::lowestBytes);
        edges.of("Promise 2", "how many it has", MemoryEdgesTest::howManyTyped);
        edges.of("Promise 2", "with n = 0 it is empty", MemoryEdgesTest::typeNothing);
        edges.of("Promise 2", "-2: n outside 0 .. 8", MemoryEdgesTest::typeOutside);
        edges.of("Promise 2", "-4: it would have more than 250", MemoryEdgesTest::typeTooMany);
    }

    private static void object() {
        edges.of("Promise 3", "A new object: THE ROW, which is empty then", MemoryEdgesTest::rowIsEmptyThen);
        edges.of("Promise 3", "is put at TOP as its TABLE", MemoryEdgesTest::rowIsPut);
        edges.of("Promise 3", "TOP goes on by its length", MemoryEdgesTest::topGoesOn);
        edges.of("Promise 3", "all LINKS and attributes 0", MemoryEdgesTest::entryIsCleared);
        edges.of("Promise 3", "Its number", MemoryEdgesTest::numbers);
        edges.of("Promise 3", "-4 (THE ROW stays)", MemoryEdgesTest::rowStays);
        edges.of("Promise 3", "there are 100", MemoryEdgesTest::hundredObjects);
        edges.of("Promise 3", "or TOP would be above 4096", MemoryEdgesTest::topEndsAt4096);
    }

    private static void small() {
        edges.of("Promise 4", "How many objects", MemoryEdgesTest::howManyObjects);
        edges.of("Promise 5", "Byte a of MEMORY", MemoryEdgesTest::peekAByte);
        edges.of("Promise 5", "-2", MemoryEdgesTest::peekOutside);
        edges.of("Promise 6", "Byte a of MEMORY becomes the lowest 8 bits of v", MemoryEdgesTest::pokeLowest8);
        edges.of("Promise 6", "what it was", MemoryEdgesTest::pokeAnswers);
        edges.of("Promise 6", "-2", MemoryEdgesTest::pokeOutside);
        edges.of("Promise 7", "STRICT or not", MemoryEdgesTest::strictOrNot);
        edges.of("Promise 7", "whether it was", MemoryEdgesTest::strictBefore);
    }

    private static void noObjects(int version) {
        ZObjects x = new ZObjects(version);
        due.is("count()", x.count(), 0);
        due.is("parent(1)", x.parent(1), -1);
        due.is("judge()", x.judge(), 0);
        due.is("object()", x.object(), 1);
    }

    private static void memoryAndTop(int version) {
        ZObjects x = new ZObjects(version);
        int[] places = {0, 1, 64, 255, 256, 1791, 1792, 4094, 4095};
        for (int a : places) {
            due.is("peek(" + a + ")", x.peek(a), 0);
        }
        x.type(0xffff, 2);
        x.object();
        due.is("the first TABLE's address", Story.table(x, version, 1), 1792);
        due.is("peek(1791)", x.peek(1791), 0);
        due.is("peek(1792)", x.peek(1792), 255);
        due.is("peek(1793)", x.peek(1793), 255);
        due.is("peek(1794)", x.peek(1794), 0);
        // Another one is not touched by what the first was told.
        ZObjects y = new ZObjects(version);
        due.is("peek(1792) of another", y.peek(1792), 0);
        due.is("count() of another", y.count(), 0);
    }

    private static void notStrict(int version) {
        ZObjects x = Story.plain(version, 1);
        due.is("move(1, 1)", x.move(1, 1), 1);
        due.is("strict(true)", x.strict(true), false);
        due.is("strict(true) of another", new ZObjects(version).strict(true), false);
    }

    /** What tells versions 1, 2, 3 and 4 to 8 from one another: a name, and how many attributes there are. */
    private static String kind(int version) {
        ZObjects x = Story.one(version, Story.titled(6, 1, 3, 7));
        Story.pokeWord(x, 64 + 6, 1500);
        Story.pokeBytes(x, 3000, Story.words(23));
        return Story.name(x, 1) + " " + x.attribute(1, 32, 0);
    }

    private static void versionsBelow(int version) {
        int[] below = {0, -1, -2, -7, -255, Integer.MIN_VALUE};
        due.is("version 1", kind(1), "a\r0 -2");
        for (int low : below) {
            due.is("version " + low, kind(low), "a\r0 -2");
        }
        due.is("version 2, which is itself", kind(2), "arb -2");
    }

    private static void versionsAbove(int version) {
        int[] above = {9, 10, 16, 257, 258, 65537, Integer.MAX_VALUE};
        due.is("version 8", kind(8), "arb 0");
        for (int high : above) {
            due.is("version " + high, kind(high), "arb 0");
        }
        due.is("version 3, narrow", kind(3), "arb -2");
        due.is("version 4, wide", kind(4), "arb 0");
    }

    private static void lowestBytes(int version) {
        for (int n = 1; n <= 8; n++) {
            ZObjects x = new ZObjects(version);
            x.type(0x99, 1);
            x.type(0x8182838485868788L, n);
            x.object();
            due.is("the byte before", x.peek(1792), 0x99);
            for (int i = 0; i < n; i++) {
                due.is("byte " + i + " of type(w, " + n + ")", x.peek(1793 + i), 0x88 - n + 1 + i);
            }
            due.is("the byte behind type(w, " + n + ")", x.peek(1793 + n), 0);
        }
        long[] edges = {Long.MIN_VALUE, Long.MAX_VALUE, -1};
        int[][] want = {{128, 0}, {127, 255}, {255, 255}};
        for (int i = 0; i < edges.length; i++) {
            ZObjects x = new ZObjects(version);
            due.is("type(" + edges[i] + ", 8)", x.type(edges[i], 8), 8);
            x.object();
            due.is("its highest byte", x.peek(1792), want[i][0]);
            due.is("its lowest byte", x.peek(1799), want[i][1]);
        }
    }

    private static void howManyTyped(int version) {
        ZObjects x = new ZObjects(version);
        int all = 0;
        for (int n = 1; n <= 8; n++) {
            all += n;
            due.is("type(0, " + n + ")", x.type(0, n), all);
        }
    }

    private static void typeNothing(int version) {
        ZObjects x = new ZObjects(version);
        due.is("type(5, 0), empty before", x.type(5, 0), 0);
        x.type(0x0102, 2);
        due.is("type(5, 0)", x.type(5, 0), 0);
        due.is("type(3, 1)", x.type(3, 1), 1);
        x.object();
        due.is("peek(1792)", x.peek(1792), 3);
        due.is("peek(1793)", x.peek(1793), 0);
        Story.type(x, new int[250]);
        due.is("type(5, 0), full before", x.type(5, 0), 0);
        due.is("type(5, 8)", x.type(5, 8), 8);
    }

    private static void typeOutside(int version) {
        ZObjects x = new ZObjects(version);
        x.type(7, 1);
        int[] outside = {-1, -8, 9, 16, 256, 257, Integer.MIN_VALUE, Integer.MAX_VALUE};
        for (int n : outside) {
            due.is("type(9, " + n + ")", x.type(9, n), -2);
        }
        due.is("type(8, 1)", x.type(8, 1), 2);
        due.is("type(8, 8)", x.type(8, 8), 10);
    }

    private static void typeTooMany(int version) {
        for (int n = 1; n <= 8; n++) {
            ZObjects x = new ZObjects(version);
            Story.type(x, new int[251 - n]);
            due.is("type(-1, " + n + ") behind " + (251 - n), x.type(-1, n), -4);
            due.is("type(5, " + (n - 1) + ")", x.type(5, n - 1), n == 1 ? 0 : 250);
        }
        ZObjects x = new ZObjects(version);
        Story.type(x, new int[249]);
        due.is("type(-1, 2) behind 249", x.type(-1, 2), -4);
        due.is("type(9, 1) behind 249", x.type(9, 1), 250);
        due.is("type(9, 1) behind 250", x.type(9, 1), -4);
        x.object();
        due.is("byte 248 of the table", x.peek(1792 + 248), 0);
        due.is("byte 249 of the table", x.peek(1792 + 249), 9);
        due.is("byte 250, behind it", x.peek(1792 + 250), 0);
    }

    private static void rowIsEmptyThen(int version) {
        ZObjects x = new ZObjects(version);
        x.type(0x0506, 2);
        due.is("object()", x.object(), 1);
        due.is("type(7, 1)", x.type(7, 1), 1);
        due.is("object()", x.object(), 2);
        due.is("object(), with an empty row", x.object(), 3);
        due.is("object(), with an empty row", x.object(), 4);
        due.is("table of 3", Story.table(x, version, 3), 1795);
        due.is("table of 4", Story.table(x, version, 4), 1795);
        due.is("peek(1795)", x.peek(1795), 0);
    }

    private static void rowIsPut(int version) {
        int[] full = new int[250];
        for (int i = 0; i < 250; i++) {
            full[i] = 255 - i;
        }
        ZObjects x = Story.one(version, full);
        for (int i = 0; i < 250; i++) {
            due.is("byte " + i, x.peek(1792 + i), 255 - i);
        }
        due.is("byte 250", x.peek(1792 + 250), 0);
        ZObjects y = new ZObjects(version);
        Story.pokeBytes(y, 1791, 1, 2, 3, 4);
        Story.make(y, 9, 8);
        due.is("peek(1791), before TOP", y.peek(1791), 1);
        due.is("peek(1792), put over what was there", y.peek(1792), 9);
        due.is("peek(1793), put over what was there", y.peek(1793), 8);
        due.is("peek(1794), behind the row", y.peek(1794), 4);
        ZObjects z = new ZObjects(version);
        Story.pokeBytes(z, 1792, 1, 6, 7);
        z.object();
        due.is("peek(1792), with an empty row", z.peek(1792), 1);
    }

    private static void topGoesOn(int version) {
        ZObjects x = new ZObjects(version);
        int[] sizes = {1, 0, 2, 250, 0, 8};
        int top = 1792;
        for (int i = 0; i < sizes.length; i++) {
            Story.make(x, new int[sizes[i]]);
            due.is("table of " + (i + 1), Story.table(x, version, i + 1), top);
            top += sizes[i];
        }
        // TOP is not in MEMORY: what is written into a TABLE's address does not move it.
        Story.setTable(x, version, 6, 3000);
        x.object();
        due.is("table of 7", Story.table(x, version, 7), top);
    }

    private static void entryIsCleared(int version) {
        int size = Story.isWide(version) ? 14 : 9;
        int[] objects = {1, 100};
        for (int object : objects) {
            ZObjects x = Story.bare(version, object - 1);
            int at = Story.entry(version, object);
            for (int i = -1; i <= size; i++) {
                x.poke(at + i, 255);
            }
            due.is("object()", x.object(), object);
            due.is("the byte before the entry", x.peek(at - 1), 255);
            for (int i = 0; i < size - 2; i++) {
                due.is("byte " + i + " of the entry", x.peek(at + i), 0);
            }
            due.is("its TABLE's address", Story.table(x, version, object), 1792);
            due.is("the byte behind the entry", x.peek(at + size), 255);
            due.is("its links", Story.links(x, object), "0 0 0");
        }
    }

    private static void numbers(int version) {
        ZObjects x = new ZObjects(version);
        due.is("object()", x.object(), 1);
        due.is("object()", x.object(), 2);
        Story.type(x, 1, 2, 3);
        due.is("object()", x.object(), 3);
        x.remove(3);
        due.is("object() behind remove(3)", x.object(), 4);
    }

    private static void rowStays(int version) {
        ZObjects x = Story.bare(version, 100);
        x.type(0x0506, 2);
        due.is("object() behind 100", x.object(), -4);
        due.is("object() once more", x.object(), -4);
        due.is("type(7, 1)", x.type(7, 1), 3);
        due.is("peek(1792)", x.peek(1792), 0);
        ZObjects y = nearTheEnd(version);
        Story.type(y, new int[55]);
        due.is("object() beyond 4096", y.object(), -4);
        due.is("type(7, 1)", y.type(7, 1), 56);
        due.is("object() beyond 4096", y.object(), -4);
        due.is("count()", y.count(), 9);
    }

    /** Nine objects of 250 bytes each: TOP is 4042. */
    private static ZObjects nearTheEnd(int version) {
        ZObjects x = new ZObjects(version);
        for (int i = 0; i < 9; i++) {
            Story.make(x, new int[250]);
        }
        return x;
    }

    private static void hundredObjects(int version) {
        ZObjects x = Story.bare(version, 98);
        due.is("object()", x.object(), 99);
        due.is("object()", x.object(), 100);
        due.is("object() behind 100", x.object(), -4);
        due.is("object() with a row", Story.make(x, 1), -4);
        due.is("count()", x.count(), 100);
        due.is("parent(101)", x.parent(101), -1);
    }

    private static void topEndsAt4096(int version) {
        ZObjects x = nearTheEnd(version);
        due.is("object() up to 4097", Story.make(x, new int[55]), -4);
        int[] row = new int[54];
        row[53] = 200;
        due.is("object() up to 4096", Story.make(x, row), 10);
        due.is("peek(4095)", x.peek(4095), 200);
        due.is("object() with an empty row at 4096", x.object(), 11);
        due.is("its TABLE's address", Story.table(x, version, 11), 4096);
        x.type(1, 1);
        due.is("object() with one byte at 4096", x.object(), -4);
        x.type(1, 0);
        due.is("object() when the row is empty again", x.object(), 12);
        ZObjects y = nearTheEnd(version);
        due.is("object() up to 4095", Story.make(y, new int[53]), 10);
        due.is("object() up to 4097", Story.make(y, new int[2]), -4);
        due.is("object() up to 4096", Story.make(y, new int[1]), 11);
    }

    private static void howManyObjects(int version) {
        ZObjects x = new ZObjects(version);
        due.is("count()", x.count(), 0);
        for (int i = 1; i <= 100; i++) {
            x.object();
            due.is("count()", x.count(), i);
        }
        x.object();
        due.is("count() behind a refused one", x.count(), 100);
        ZObjects y = Story.plain(version, 2);
        y.remove(2);
        for (int i = 0; i < 14; i++) {
            y.poke(Story.entry(version, 2) + i, 0);
        }
        due.is("count(), whatever was written over", y.count(), 2);
    }

    private static void peekAByte(int version) {
        ZObjects x = new ZObjects(version);
        x.poke(0, 1);
        x.poke(4095, 255);
        due.is("peek(0)", x.peek(0), 1);
        due.is("peek(1)", x.peek(1), 0);
        due.is("peek(4094)", x.peek(4094), 0);
        due.is("peek(4095)", x.peek(4095), 255);
        x.poke(7, 128);
        due.is("peek(7)", x.peek(7), 128);
        due.is("peek(7) again", x.peek(7), 128);
    }

    private static void peekOutside(int version) {
        ZObjects x = new ZObjects(version);
        int[] outside = {-1, -4096, 4096, 4097, 65536, Integer.MIN_VALUE, Integer.MAX_VALUE};
        for (int a : outside) {
            due.is("peek(" + a + ")", x.peek(a), -2);
        }
    }

    private static void pokeLowest8(int version) {
        ZObjects x = new ZObjects(version);
        int[][] values = {{255, 255}, {256, 0}, {257, 1}, {-1, 255}, {-256, 0}, {128, 128}, {0, 0}, {511, 255},
            {Integer.MIN_VALUE, 0}, {Integer.MAX_VALUE, 255}};
        int[] places = {0, 2000, 4095};
        for (int a : places) {
            for (int[] v : values) {
                x.poke(a, v[0]);
                due.is("peek(" + a + ") behind poke(" + a + ", " + v[0] + ")", x.peek(a), v[1]);
            }
        }
        due.is("peek(1)", x.peek(1), 0);
        due.is("peek(4094)", x.peek(4094), 0);
    }

    private static void pokeAnswers(int version) {
        ZObjects x = new ZObjects(version);
        due.is("poke(4095, -1)", x.poke(4095, -1), 0);
        due.is("poke(4095, 128)", x.poke(4095, 128), 255);
        due.is("poke(4095, 256)", x.poke(4095, 256), 128);
        due.is("poke(4095, 1)", x.poke(4095, 1), 0);
        due.is("poke(4095, 1)", x.poke(4095, 1), 1);
    }

    private static void pokeOutside(int version) {
        ZObjects x = new ZObjects(version);
        int[] outside = {-1, -4096, 4096, 4097, 65536, Integer.MIN_VALUE, Integer.MAX_VALUE};
        for (int a : outside) {
            due.is("poke(" + a + ", 255)", x.poke(a, 255), -2);
        }
        int[] places = {0, 1, 4095};
        for (int a : places) {
            due.is("peek(" + a + ")", x.peek(a), 0);
        }
    }

    private static void strictOrNot(int version) {
        ZObjects x = Story.plain(version, 2);
        x.move(2, 1);
        x.strict(true);
        due.is("STRICT move(1, 2)", x.move(1, 2), -3);
        x.strict(true);
        due.is("STRICT move(1, 2)", x.move(1, 2), -3);
        x.strict(false);
        due.is("move(1, 2)", x.move(1, 2), 1);
    }

    private static void strictBefore(int version) {
        ZObjects x = new ZObjects(version);
        boolean[] tell = {false, true, true, false, false, true, false};
        boolean[] want = {false, false, true, true, false, false, true};
        for (int i = 0; i < tell.length; i++) {
            due.is("strict(" + tell[i] + "), call " + i, x.strict(tell[i]), want[i]);
        }
    }
}
