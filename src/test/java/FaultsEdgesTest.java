/** The edges that promises 23 and 24 name: judge and ring. */
public final class FaultsEdgesTest {
    private static final Edges edges = new Edges("FaultsEdgesTest");
    private static final Due due = edges.due();

    public static void main(String[] args) {
        edges.of("Promise 23", "How many FAULTS the tables have", FaultsEdgesTest::howMany);
        edges.of("Promise 23", "of each object, in order", FaultsEdgesTest::inOrder);
        edges.of("Promise 23", "1, 2, 3 its PARENT, SIBLING, CHILD is neither 0 nor an object", FaultsEdgesTest::stray);
        edges.of("Promise 23", "4 going along PARENTS from it comes to it again", FaultsEdgesTest::ringOfParents);
        edges.of("Promise 23", "5 along SIBLINGS likewise", FaultsEdgesTest::ringOfSiblings);
        edges.of("Promise 23", "6 its PARENT is an object, but going along SIBLINGS from that one's CHILD, that one too, "
                + "does not come to it", FaultsEdgesTest::outsideTheRow);
        edges.of("Promise 23", "7 its CHILD is an object whose PARENT it is not", FaultsEdgesTest::childOfAnother);
        edges.of("Promise 23", "8 it has a SIBLING that is not 0, and its PARENT is 0", FaultsEdgesTest::siblingAlone);
        edges.of("Promise 23", "9 a property's number is not below that of the one before it",
                FaultsEdgesTest::numbersOutOfOrder);
        edges.of("Promise 23", "10 its TABLE's address is that of an object before it", FaultsEdgesTest::tableOfAnother);
        edges.of("Promise 23", "Each once for an object", FaultsEdgesTest::eachOnce);
        edges.of("Promise 24", "The i-th FAULT (from 0) as judge() would find it", FaultsEdgesTest::ithFault);
        edges.of("Promise 24", "16 times the object, and its code", FaultsEdgesTest::objectAndCode);
        edges.of("Promise 24", "-2", FaultsEdgesTest::ringOutside);
        edges.end("Promise 23", "Promise 24");
    }

    private static void howMany(int version) {
        due.is("judge() without objects", new ZObjects(version).judge(), 0);
        due.is("judge() of one object", Story.plain(version, 1).judge(), 0);
        due.is("judge() of two empty tables", Story.bare(version, 2).judge(), 1);
        // The most that 100 objects of these kinds have: 2, 3, 4, 6, 9 of all and 10 of all but one.
        ZObjects x = Story.bare(version, 100);
        Story.pokeBytes(x, 1792, 0, 1, 1, 1, 1, 0);
        int link = Story.isWide(version) ? 7 : 4;
        int step = Story.isWide(version) ? 2 : 1;
        for (int object = 1; object <= 100; object++) {
            int at = Story.entry(version, object) + link;
            x.poke(at, object);
            x.poke(at + step, 101);
            x.poke(at + 2 * step, 255);
        }
        due.is("judge() of 100", x.judge(), 599);
        due.is("judge() again", x.judge(), 599);
    }

    private static void inOrder(int version) {
        ZObjects x = Story.plain(version, 3);
        Story.setTable(x, version, 3, 1792);
        Story.setSibling(x, version, 3, 99);
        Story.setChild(x, version, 2, 99);
        Story.setParent(x, version, 1, 99);
        due.is("faults", Story.faults(x), "5 1:1 2:3 3:2 3:8 3:10");
    }

    private static void stray(int version) {
        ZObjects x = Story.plain(version, 3);
        int[] none = {4, 100, 101, 127, 128, Story.highestLink(version)};
        for (int link : none) {
            Story.setParent(x, version, 2, link);
            due.is("PARENT " + link, Story.faults(x), "1 2:1");
            Story.setSibling(x, version, 2, link);
            due.is("and SIBLING " + link, Story.faults(x), "2 2:1 2:2");
            Story.setChild(x, version, 2, link);
            due.is("and CHILD " + link, Story.faults(x), "3 2:1 2:2 2:3");
            Story.setParent(x, version, 2, 0);
            due.is("SIBLING and CHILD " + link, Story.faults(x), "3 2:2 2:3 2:8");
            Story.setSibling(x, version, 2, 0);
            due.is("CHILD " + link, Story.faults(x), "1 2:3");
            Story.setChild(x, version, 2, 0);
            due.is("none", Story.faults(x), "0");
        }
        Story.setParent(x, version, 2, 3);
        Story.setChild(x, version, 3, 2);
        due.is("PARENT 3, the last object", Story.faults(x), "0");
        ZObjects full = Story.bare(version, 100);
        full.move(1, 100);
        full.move(100, 99);
        due.is("links to 100, tables apart", full.judge(), 99);
        due.is("ring(0)", full.ring(0), 16 * 2 + 10);
        if (Story.isWide(version)) {
            ZObjects wide = Story.plain(version, 3);
            Story.setParent(wide, version, 1, 256);
            Story.setSibling(wide, version, 2, 256 + 3);
            Story.setChild(wide, version, 3, 512 + 1);
            due.is("links whose lower bytes are objects", Story.faults(wide), "4 1:1 2:2 2:8 3:3");
        }
    }

    private static void ringOfParents(int version) {
        ZObjects self = Story.plain(version, 2);
        self.move(1, 1);
        due.is("one in itself", Story.faults(self), "1 1:4");
        ZObjects x = Story.plain(version, 4);
        x.move(2, 1);
        x.move(3, 2);
        due.is("no ring", Story.faults(x), "0");
        x.move(1, 3);
        due.is("a ring of three", Story.faults(x), "3 1:4 2:4 3:4");
        x.move(4, 2);
        due.is("one that leads into it, but is not come to again", Story.faults(x), "3 1:4 2:4 3:4");
        Story.setParent(x, version, 3, 99);
        due.is("a ring that strays", Story.faults(x), "1 3:1");
        ZObjects all = Story.bare(version, 100);
        for (int object = 2; object <= 100; object++) {
            all.move(object, object - 1);
        }
        due.is("judge() of a deep one", all.judge(), 99);
        all.move(1, 100);
        due.is("judge() of a ring of 100", all.judge(), 199);
        due.is("ring(0)", all.ring(0), 16 + 4);
        due.is("ring(197)", all.ring(197), 1600 + 4);
    }

    private static void ringOfSiblings(int version) {
        ZObjects x = Story.plain(version, 4);
        x.move(4, 1);
        x.move(3, 1);
        x.move(2, 1);
        due.is("no ring", Story.faults(x), "0");
        Story.setSibling(x, version, 4, 4);
        due.is("its own SIBLING", Story.faults(x), "1 4:5");
        Story.setSibling(x, version, 4, 3);
        due.is("a ring of two, with one that leads into it", Story.faults(x), "2 3:5 4:5");
        Story.setSibling(x, version, 4, 2);
        due.is("a ring of three", Story.faults(x), "3 2:5 3:5 4:5");
        Story.setSibling(x, version, 4, 1);
        due.is("a row that leads to its PARENT", Story.faults(x), "0");
        ZObjects all = Story.bare(version, 100);
        for (int object = 100; object >= 2; object--) {
            all.move(object, 1);
        }
        due.is("judge() of a row of 99", all.judge(), 99);
        Story.setSibling(all, version, 100, 2);
        due.is("judge() of a ring of 99", all.judge(), 198);
        due.is("ring(0)", all.ring(0), 32 + 5);
        due.is("ring(196)", all.ring(196), 1600 + 5);
    }

    private static void outsideTheRow(int version) {
        ZObjects x = Story.plain(version, 4);
        Story.setParent(x, version, 2, 1);
        due.is("the CHILD is 0", Story.faults(x), "1 2:6");
        Story.setChild(x, version, 1, 77);
        due.is("the CHILD is none", Story.faults(x), "2 1:3 2:6");
        Story.setChild(x, version, 1, 3);
        Story.setParent(x, version, 3, 1);
        due.is("the row ends before", Story.faults(x), "1 2:6");
        Story.setSibling(x, version, 3, 77);
        due.is("the row strays before", Story.faults(x), "2 2:6 3:2");
        Story.setSibling(x, version, 3, 3);
        due.is("the row goes round before", Story.faults(x), "2 2:6 3:5");
        Story.setSibling(x, version, 3, 2);
        due.is("the last of the row", Story.faults(x), "0");
        Story.setSibling(x, version, 3, 0);
        Story.setChild(x, version, 1, 2);
        due.is("that CHILD itself, then 3 is not in the row", Story.faults(x), "1 3:6");
        Story.setParent(x, version, 3, 99);
        due.is("a PARENT that is none has no row", Story.faults(x), "1 3:1");
        Story.setParent(x, version, 3, 0);
        due.is("a PARENT of 0 has no row", Story.faults(x), "0");
    }

    private static void childOfAnother(int version) {
        ZObjects x = Story.plain(version, 3);
        Story.setChild(x, version, 1, 2);
        due.is("its CHILD has PARENT 0", Story.faults(x), "1 1:7");
        Story.setParent(x, version, 2, 77);
        due.is("its CHILD's PARENT is none", Story.faults(x), "2 1:7 2:1");
        Story.setParent(x, version, 2, 3);
        Story.setChild(x, version, 3, 2);
        due.is("its CHILD's PARENT is another", Story.faults(x), "1 1:7");
        Story.setParent(x, version, 2, 1);
        due.is("it is its CHILD's PARENT, not the other", Story.faults(x), "1 3:7");
        Story.setChild(x, version, 3, 77);
        due.is("a CHILD that is none has no PARENT", Story.faults(x), "1 3:3");
        Story.setChild(x, version, 3, 3);
        due.is("its own CHILD with PARENT 0", Story.faults(x), "1 3:7");
        // Only the first CHILD is asked, not its SIBLINGS.
        ZObjects y = Story.plain(version, 3);
        y.move(3, 1);
        y.move(2, 1);
        Story.setParent(y, version, 3, 2);
        due.is("a SIBLING of its CHILD that has another PARENT", Story.faults(y), "1 3:6");
    }

    private static void siblingAlone(int version) {
        ZObjects x = Story.plain(version, 3);
        Story.setSibling(x, version, 1, 2);
        due.is("a SIBLING, PARENT 0", Story.faults(x), "1 1:8");
        Story.setSibling(x, version, 1, 77);
        due.is("a SIBLING that is none, PARENT 0", Story.faults(x), "2 1:2 1:8");
        Story.setSibling(x, version, 1, 1);
        due.is("its own SIBLING, PARENT 0", Story.faults(x), "2 1:5 1:8");
        Story.setParent(x, version, 1, 77);
        due.is("its own SIBLING, a PARENT that is none", Story.faults(x), "2 1:1 1:5");
        Story.setSibling(x, version, 1, 0);
        Story.setParent(x, version, 1, 0);
        due.is("no SIBLING, PARENT 0", Story.faults(x), "0");
        x.move(2, 3);
        x.move(1, 3);
        due.is("a SIBLING with a PARENT", Story.faults(x), "0");
    }

    private static void numbersOutOfOrder(int version) {
        int last = Story.defaults(version);
        int two = Story.two(version);
        int[][] rows = {
            {0, 0},
            {0, 5, 1, 0},
            {0, last, 1, last - 1, 1, 2, 1, 1, 1, 0},
            {0, 5, 1, 5, 1, 0},
            {0, 5, 1, two + 5, 1, 1, 0},
            {0, 5, 1, 6, 1, 0},
            {0, 5, 1, 3, 1, 4, 1, 0},
            {0, 1, 1, last, 1, 0},
            {0, 5, 1, two, 1, 1, 0},
            {0, two, 1, 1, 5, 1, 0},
            {0, two, 1, 1, two, 1, 1, 0},
            {0, 5, 1, 0, 6, 1, 0},
            {1, 0x98, 0xc6, 5, 1, 6, 1, 0},
            {1, 5, 6, 6, 1, 5, 1, 0},
        };
        String[] want = {"0", "0", "0", "1 1:9", "1 1:9", "1 1:9", "1 1:9", "1 1:9", "0", "1 1:9", "1 1:9", "0",
            "1 1:9", "0"};
        for (int i = 0; i < rows.length; i++) {
            due.is("row " + i, Story.faults(Story.one(version, rows[i])), want[i]);
        }
        ZObjects end = Story.oneAt(version, 4092, 0, 5, 1, 6);
        due.is("a row up to the end of MEMORY", Story.faults(end), "1 1:9");
        end.poke(4095, 4);
        due.is("one in order up to the end of MEMORY", Story.faults(end), "0");
    }

    private static void tableOfAnother(int version) {
        ZObjects x = Story.plain(version, 3);
        Story.setTable(x, version, 2, 1792);
        due.is("2 has the TABLE of 1", Story.faults(x), "1 2:10");
        Story.setTable(x, version, 3, 1792);
        due.is("3 has it too", Story.faults(x), "2 2:10 3:10");
        Story.setTable(x, version, 1, 2000);
        due.is("1 has it no more", Story.faults(x), "1 3:10");
        Story.setTable(x, version, 3, 2000);
        due.is("3 has the new one of 1", Story.faults(x), "1 3:10");
        Story.setTable(x, version, 3, 2001);
        due.is("one byte behind it", Story.faults(x), "0");
        int[] places = {0, 4096, 65535};
        for (int place : places) {
            Story.setTable(x, version, 1, place);
            Story.setTable(x, version, 3, place);
            due.is("TABLES at " + place, Story.faults(x), "1 3:10");
        }
        Story.setTable(x, version, 1, 0x0100);
        Story.setTable(x, version, 3, 0x0001);
        due.is("other addresses of like bytes", Story.faults(x), "0");
        Story.setTable(x, version, 3, 0x0200);
        due.is("other addresses of one lower byte", Story.faults(x), "0");
    }

    private static void eachOnce(int version) {
        ZObjects x = Story.plain(version, 4);
        Story.pokeBytes(x, 2000, 0, 5, 1, 5, 1, 6, 1, 6, 1, 7, 1, 0);
        for (int object = 1; object <= 4; object++) {
            Story.setTable(x, version, object, 2000);
        }
        due.is("many properties out of order, many of one TABLE", Story.faults(x), "7 1:9 2:9 2:10 3:9 3:10 4:9 4:10");
        ZObjects y = Story.plain(version, 1);
        y.move(1, 1);
        Story.setSibling(y, version, 1, 1);
        due.is("rings that come to it 100 times", Story.faults(y), "2 1:4 1:5");
    }

    private static void ithFault(int version) {
        ZObjects x = Story.plain(version, 3);
        Story.setParent(x, version, 1, 99);
        Story.setSibling(x, version, 3, 2);
        Story.setTable(x, version, 3, 1792);
        due.is("judge()", x.judge(), 3);
        due.is("ring(0)", x.ring(0), 16 + 1);
        due.is("ring(1)", x.ring(1), 48 + 8);
        due.is("ring(2)", x.ring(2), 48 + 10);
        due.is("ring(3)", x.ring(3), -2);
        // As judge() would find it now, not when it was asked.
        Story.setParent(x, version, 1, 0);
        due.is("ring(0) once 1 is mended", x.ring(0), 48 + 8);
        due.is("ring(2) once 1 is mended", x.ring(2), -2);
        due.is("judge()", x.judge(), 2);
    }

    private static void objectAndCode(int version) {
        due.is("the lowest", lowest(version).ring(0), 17);
        ZObjects x = Story.bare(version, 100);
        due.is("the highest", x.ring(98), 16 * 100 + 10);
        due.is("the first", x.ring(0), 16 * 2 + 10);
    }

    private static ZObjects lowest(int version) {
        ZObjects x = Story.plain(version, 1);
        Story.setParent(x, version, 1, 2);
        return x;
    }

    private static void ringOutside(int version) {
        due.is("ring(0) without objects", new ZObjects(version).ring(0), -2);
        due.is("ring(0) without faults", Story.plain(version, 2).ring(0), -2);
        ZObjects x = lowest(version);
        int[] outside = {-1, 1, 10, 16, 100, Integer.MIN_VALUE, Integer.MAX_VALUE};
        for (int i : outside) {
            due.is("ring(" + i + ")", x.ring(i), -2);
        }
        due.is("ring(0)", x.ring(0), 17);
        ZObjects full = Story.bare(version, 100);
        due.is("ring(98)", full.ring(98), 1610);
        due.is("ring(99)", full.ring(99), -2);
    }
}
