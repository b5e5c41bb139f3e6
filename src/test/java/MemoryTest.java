/** Promises 1 to 7: a new object, type, object, count, peek, poke, strict. */
public final class MemoryTest {
    private static final Due due = new Due("MemoryTest");

    public static void main(String[] args) {
        newObjectIsEmpty();
        versionsBeyondTheEnds();
        typeTakesTheLowestBytes();
        typeHasItsLimits();
        for (int version = 1; version <= 8; version++) {
            objectTakesTheRow(version);
            objectClearsItsEntry(version);
            objectsEndAtAHundred(version);
        }
        objectEndsWithTheMemory();
        peekAndPoke();
        strictTellsWhatItWas();
        due.end();
    }

    private static void newObjectIsEmpty() {
        for (int version = 1; version <= 8; version += 7) {
            // Eight objects, since one is not used for more than 512 calls.
            for (int from = 0; from < 4096; from += 512) {
                ZObjects x = new ZObjects(version);
                for (int a = from; a < from + 512; a++) {
                    due.is("peek(" + a + ") of a new one", x.peek(a), 0);
                }
            }
            ZObjects x = new ZObjects(version);
            due.is("count() of a new one", x.count(), 0);
            due.is("strict(false) of a new one", x.strict(false), false);
            due.is("parent(1) of a new one", x.parent(1), -1);
            due.is("judge() of a new one", x.judge(), 0);
            due.is("type(7, 1) of a new one", x.type(7, 1), 1);
            due.is("object()", x.object(), 1);
            due.is("the first table's address", Story.table(x, version, 1), 1792);
        }
    }

    private static void versionsBeyondTheEnds() {
        int[] low = {0, -1, Integer.MIN_VALUE};
        for (int version : low) {
            ZObjects x = new ZObjects(version);
            Story.make(x, Story.titled(1, 3, 7));
            due.is("version " + version + " reads names as 1", Story.name(x, 1), "\r0");
            due.is("version " + version + ": attribute 32", x.attribute(1, 32, 0), -2);
            due.is("version " + version + ": default 32", x.fallback(32, 0), -2);
        }
        int[] high = {9, 100, Integer.MAX_VALUE};
        for (int version : high) {
            ZObjects x = new ZObjects(version);
            Story.make(x, 0, 0);
            due.is("version " + version + ": attribute 47", x.attribute(1, 47, 0), 0);
            due.is("version " + version + ": default 63", x.fallback(63, 0), 0);
            due.is("version " + version + ": the table's address", Story.table(x, 8, 1), 1792);
        }
    }

    private static void typeTakesTheLowestBytes() {
        ZObjects x = new ZObjects(3);
        due.is("type(.., 3)", x.type(0x1122334455667788L, 3), 3);
        due.is("type(.., 8)", x.type(0x8122334455667788L, 8), 11);
        due.is("type(-1, 1)", x.type(-1L, 1), 12);
        due.is("object()", x.object(), 1);
        int[] bytes = {0x66, 0x77, 0x88, 0x81, 0x22, 0x33, 0x44, 0x55, 0x66, 0x77, 0x88, 0xff, 0};
        for (int i = 0; i < bytes.length; i++) {
            due.is("byte " + i + " of the table", x.peek(1792 + i), bytes[i]);
        }
        due.is("type behind object()", x.type(1, 1), 1);
        due.is("type(9, 2)", x.type(9, 2), 3);
        due.is("type(9, 0)", x.type(9, 0), 0);
        due.is("type(9, 2)", x.type(9, 2), 2);
    }

    private static void typeHasItsLimits() {
        ZObjects x = new ZObjects(5);
        int[] outside = {-1, 9, Integer.MIN_VALUE, Integer.MAX_VALUE};
        for (int n : outside) {
            due.is("type(5, " + n + ")", x.type(5, n), -2);
        }
        for (int i = 1; i <= 31; i++) {
            due.is("type(0, 8)", x.type(0, 8), 8 * i);
        }
        due.is("type(0, 3) with 248", x.type(0, 3), -4);
        due.is("type(0, 9) with 248", x.type(0, 9), -2);
        due.is("type(0, 2) with 248", x.type(0, 2), 250);
        due.is("type(0, 1) with 250", x.type(0, 1), -4);
        due.is("type(0, 0) with 250", x.type(0, 0), 0);
        due.is("type(0, 1) when empty", x.type(0, 1), 1);
    }

    private static void objectTakesTheRow(int version) {
        ZObjects x = new ZObjects(version);
        due.is("object() with an empty row", x.object(), 1);
        Story.type(x, 1, 2, 3);
        due.is("object() with three bytes", x.object(), 2);
        due.is("object() behind that", x.object(), 3);
        due.is("count()", x.count(), 3);
        due.is("table of 1", Story.table(x, version, 1), 1792);
        due.is("table of 2", Story.table(x, version, 2), 1792);
        due.is("table of 3", Story.table(x, version, 3), 1795);
        due.is("byte 1794", x.peek(1794), 3);
        due.is("byte 1795", x.peek(1795), 0);
    }

    private static void objectClearsItsEntry(int version) {
        ZObjects x = new ZObjects(version);
        int size = Story.isWide(version) ? 14 : 9;
        for (int i = 0; i < 2 * size; i++) {
            x.poke(Story.entry(version, 1) + i, 255);
        }
        x.poke(1793, 77);
        due.is("object() over written bytes", Story.make(x, 9), 1);
        for (int i = 0; i < size - 2; i++) {
            due.is("byte " + i + " of the entry", x.peek(Story.entry(version, 1) + i), 0);
        }
        due.is("its table", Story.table(x, version, 1), 1792);
        due.is("the first byte behind the entry", x.peek(Story.entry(version, 2)), 255);
        due.is("the byte before the entry", x.peek(Story.entry(version, 1) - 1), 0);
        due.is("byte 1792", x.peek(1792), 9);
        due.is("byte 1793, which no row reached", x.peek(1793), 77);
    }

    private static void objectsEndAtAHundred(int version) {
        ZObjects x = new ZObjects(version);
        for (int i = 1; i <= 100; i++) {
            due.is("object()", x.object(), i);
        }
        x.type(5, 1);
        due.is("object() with 100", x.object(), -4);
        due.is("count() with 100", x.count(), 100);
        due.is("the row stays", x.type(5, 1), 2);
        due.is("nothing was put", x.peek(1792), 0);
        due.is("parent(100)", x.parent(100), 0);
        due.is("parent(101)", x.parent(101), -1);
        due.is("entry 100 ends in its table", Story.table(x, version, 100), 1792);
    }

    private static void objectEndsWithTheMemory() {
        ZObjects x = new ZObjects(2);
        int[] full = new int[250];
        for (int i = 0; i < 9; i++) {
            due.is("object() of 250 bytes", Story.make(x, full), i + 1);
        }
        int[] tooMany = new int[55];
        due.is("object() of one byte too many", Story.make(x, tooMany), -4);
        due.is("the row stays", x.type(0, 1), 56);
        due.is("count()", x.count(), 9);
        int[] last = new int[54];
        last[53] = 200;
        due.is("object() up to the end", Story.make(x, last), 10);
        due.is("peek(4095)", x.peek(4095), 200);
        due.is("object() with an empty row at the end", x.object(), 11);
        due.is("its table", Story.table(x, 2, 11), 4096);
        due.is("its name", x.named(11), 0);
        due.is("its first property", x.next(11, 0), 0);
        x.type(0, 1);
        due.is("object() with one byte at the end", x.object(), -4);
    }

    private static void peekAndPoke() {
        ZObjects x = new ZObjects(4);
        due.is("poke(0, 511)", x.poke(0, 511), 0);
        due.is("poke(0, -2)", x.poke(0, -2), 255);
        due.is("peek(0)", x.peek(0), 254);
        due.is("peek(1)", x.peek(1), 0);
        due.is("poke(4095, 256)", x.poke(4095, 256), 0);
        due.is("poke(4095, 3)", x.poke(4095, 3), 0);
        due.is("peek(4095)", x.peek(4095), 3);
        int[] outside = {-1, 4096, Integer.MIN_VALUE, Integer.MAX_VALUE};
        for (int a : outside) {
            due.is("peek(" + a + ")", x.peek(a), -2);
            due.is("poke(" + a + ", 1)", x.poke(a, 1), -2);
        }
    }

    private static void strictTellsWhatItWas() {
        ZObjects x = new ZObjects(6);
        due.is("strict(true)", x.strict(true), false);
        due.is("strict(true)", x.strict(true), true);
        due.is("strict(false)", x.strict(false), true);
        due.is("strict(false)", x.strict(false), false);
    }
}
