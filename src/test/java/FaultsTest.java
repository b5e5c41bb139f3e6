/** Promises 23 and 24: judge and ring. */
public final class FaultsTest {
    private static final Due due = new Due("FaultsTest");

    public static void main(String[] args) {
        for (int version = 1; version <= 8; version++) {
            noFaults(version);
            strayLinks(version);
            rings(version);
            notInTheParentsRow(version);
            childOfAnother(version);
            siblingWithoutAParent(version);
            numbersOutOfOrder(version);
            tablesInCommon(version);
            allAtOnce(version);
            ringHasItsRange(version);
        }
        due.end();
    }

    private static ZObjects of(int version, int many) {
        ZObjects x = new ZObjects(version);
        Story.makePlain(x, many);
        return x;
    }

    private static void noFaults(int version) {
        ZObjects x = new ZObjects(version);
        due.is("no objects", Story.faults(x), "0");
        Story.makePlain(x, 4);
        due.is("objects without links", Story.faults(x), "0");
        x.move(2, 1);
        x.move(3, 1);
        x.move(4, 3);
        due.is("a tree", Story.faults(x), "0");
    }

    private static void strayLinks(int version) {
        ZObjects x = of(version, 3);
        Story.setParent(x, version, 1, 4);
        Story.setChild(x, version, 3, 255);
        due.is("a stray parent and child", Story.faults(x), "2 1:1 3:3");
        Story.setSibling(x, version, 1, 100);
        due.is("a stray sibling beside", Story.faults(x), "3 1:1 1:2 3:3");
        Story.makePlain(x, 1);
        due.is("4 is an object now", Story.faults(x), "3 1:2 1:6 3:3");
    }

    private static void rings(int version) {
        ZObjects x = of(version, 4);
        x.move(2, 1);
        x.move(3, 2);
        x.move(1, 3);
        due.is("a ring of parents", Story.faults(x), "3 1:4 2:4 3:4");
        x.move(4, 3);
        due.is("one that only leads into it", Story.faults(x), "3 1:4 2:4 3:4");
        ZObjects y = of(version, 4);
        y.move(4, 1);
        y.move(3, 1);
        y.move(2, 1);
        Story.setSibling(y, version, 4, 3);
        due.is("a ring of siblings, 2 leads into it", Story.faults(y), "2 3:5 4:5");
        ZObjects z = of(version, 1);
        z.move(1, 1);
        due.is("one within itself", Story.faults(z), "1 1:4");
        Story.setSibling(z, version, 1, 1);
        due.is("one that is its own sibling too", Story.faults(z), "2 1:4 1:5");
    }

    private static void notInTheParentsRow(int version) {
        ZObjects x = of(version, 3);
        Story.setParent(x, version, 2, 1);
        due.is("a parent without children", Story.faults(x), "1 2:6");
        Story.setChild(x, version, 1, 3);
        Story.setParent(x, version, 3, 1);
        due.is("a parent with another child", Story.faults(x), "1 2:6");
        Story.setSibling(x, version, 3, 2);
        due.is("the second child", Story.faults(x), "0");
        Story.setSibling(x, version, 3, 3);
        due.is("a row that goes round without it", Story.faults(x), "2 2:6 3:5");
    }

    private static void childOfAnother(int version) {
        ZObjects x = of(version, 3);
        Story.setChild(x, version, 1, 2);
        due.is("a child without a parent", Story.faults(x), "1 1:7");
        Story.setParent(x, version, 2, 3);
        Story.setChild(x, version, 3, 2);
        due.is("a child of another", Story.faults(x), "1 1:7");
        Story.setParent(x, version, 2, 99);
        due.is("a child with a stray parent", Story.faults(x), "3 1:7 2:1 3:7");
    }

    private static void siblingWithoutAParent(int version) {
        ZObjects x = of(version, 2);
        Story.setSibling(x, version, 1, 2);
        due.is("a sibling without a parent", Story.faults(x), "1 1:8");
        Story.setSibling(x, version, 1, 99);
        due.is("a stray sibling without a parent", Story.faults(x), "2 1:2 1:8");
    }

    private static void numbersOutOfOrder(int version) {
        int[][] rows = {
            {0, 5, 1, 4, 1, 3, 1, 0},
            {0, 5, 1, 5, 1, 0},
            {0, 5, 1, 6, 1, 7, 1, 8, 1, 0},
            {0, 5, 1, 3, 1, 4, 1, 0},
            {0, 31, 1, 0, 32, 0},
            {1, 0x80, 0, 2, 1, 3, 1, 0},
        };
        String[] want = {"0", "1 1:9", "1 1:9", "1 1:9", "0", "1 1:9"};
        for (int i = 0; i < rows.length; i++) {
            ZObjects x = new ZObjects(version);
            Story.make(x, rows[i]);
            due.is("row " + i, Story.faults(x), want[i]);
        }
        int two = Story.isWide(version) ? 64 : 32;
        ZObjects x = new ZObjects(version);
        // A property of number 0 is below all others, and none is below it.
        Story.make(x, 0, 3, 1, two, 1, 1, 0);
        Story.make(x, 0, two, 1, 1, 3, 1, 0);
        Story.make(x, 0, two, 1, 1, two, 1, 1, 0);
        due.is("rows with number 0", Story.faults(x), "2 2:9 3:9");
        ZObjects y = new ZObjects(version);
        Story.make(y, 0, Story.defaults(version), 1, two + 1, 1, 1, 0);
        due.is("from the highest to the lowest", Story.faults(y), "0");
    }

    private static void tablesInCommon(int version) {
        ZObjects x = of(version, 4);
        Story.setTable(x, version, 3, 1792);
        due.is("3 has the table of 1", Story.faults(x), "1 3:10");
        Story.setTable(x, version, 4, 1792);
        Story.setTable(x, version, 2, 1793);
        due.is("4 has it too", Story.faults(x), "2 3:10 4:10");
        Story.setTable(x, version, 1, 65535);
        Story.setTable(x, version, 3, 65535);
        due.is("a table beyond the memory", Story.faults(x), "1 3:10");
        ZObjects y = new ZObjects(version);
        y.object();
        y.object();
        due.is("two empty rows", Story.faults(y), "1 2:10");
    }

    private static void allAtOnce(int version) {
        ZObjects x = of(version, 4);
        Story.setTable(x, version, 4, 1792);
        Story.pokeBytes(x, 1792, 0, 1, 1, 1, 1);
        Story.setParent(x, version, 4, 4);
        Story.setSibling(x, version, 4, 4);
        Story.setChild(x, version, 4, 1);
        due.is("many of one object", Story.faults(x), "7 1:9 4:4 4:5 4:6 4:7 4:9 4:10");
        due.is("ring(0) is 16 times the object and its code", x.ring(0), 25);
        due.is("ring(6)", x.ring(6), 74);
        due.is("ring(7)", x.ring(7), -2);
        x.poke(1793, 0);
        Story.setParent(x, version, 4, 0);
        Story.setSibling(x, version, 4, 5);
        Story.setChild(x, version, 4, 5);
        due.is("others of one object", Story.faults(x), "4 4:2 4:3 4:8 4:10");
    }

    private static void ringHasItsRange(int version) {
        ZObjects x = new ZObjects(version);
        due.is("ring(0) without objects", x.ring(0), -2);
        for (int i = 0; i < 100; i++) {
            x.object();
        }
        due.is("judge()", x.judge(), 99);
        due.is("ring(0)", x.ring(0), 16 * 2 + 10);
        due.is("ring(98)", x.ring(98), 16 * 100 + 10);
        int[] outside = {-1, 99, Integer.MIN_VALUE, Integer.MAX_VALUE};
        for (int i : outside) {
            due.is("ring(" + i + ")", x.ring(i), -2);
        }
    }
}
