/** The edges that promises 8 to 13 and 22 name: the links, move, remove, attribute, within. */
public final class TreeEdgesTest {
    private static final Edges edges = new Edges("TreeEdgesTest");
    private static final Due due = edges.due();
    private static final int[] NONE_OF_THREE = {-1, 4, 100, 101, 256 + 1, Integer.MIN_VALUE, Integer.MAX_VALUE};

    public static void main(String[] args) {
        links();
        move();
        remove();
        attribute();
        within();
        edges.end("Promise 8", "Promise 9", "Promise 10", "Promise 11", "Promise 12", "Promise 13", "Promise 22");
    }

    private static void links() {
        edges.of("Promise 8", "The PARENT, as it stands", TreeEdgesTest::parentAsItStands);
        edges.of("Promise 8", "of 0: 0", v -> linkOfNought(v, 0));
        edges.of("Promise 8", "-1", v -> linkOfNone(v, 0));
        edges.of("Promise 9", "The CHILD, as it stands", TreeEdgesTest::childAsItStands);
        edges.of("Promise 9", "of 0: 0", v -> linkOfNought(v, 2));
        edges.of("Promise 9", "-1", v -> linkOfNone(v, 2));
        edges.of("Promise 10", "The SIBLING, as it stands", TreeEdgesTest::siblingAsItStands);
        edges.of("Promise 10", "of 0: 0", v -> linkOfNought(v, 1));
        edges.of("Promise 10", "-1", v -> linkOfNone(v, 1));
    }

    private static void move() {
        edges.of("Promise 11", "As remove()", TreeEdgesTest::moveTakesOut);
        edges.of("Promise 11", "then the object becomes the first CHILD of another one", TreeEdgesTest::moveMakesFirst);
        edges.of("Promise 11", "its SIBLING what was that", TreeEdgesTest::moveKeepsTheRow);
        edges.of("Promise 11", "its PARENT that one): 1", TreeEdgesTest::moveTellsTheParent);
        edges.of("Promise 11", "-1 (either)", TreeEdgesTest::moveOfNone);
        edges.of("Promise 11", "-3: as remove()", TreeEdgesTest::moveAsRemoveRefuses);
        edges.of("Promise 11", "or STRICT, and going along PARENTS from the other one, that one too, comes to the object",
                TreeEdgesTest::strictMove);
    }

    private static void remove() {
        edges.of("Promise 12", "The object is taken out of the row of its PARENT's CHILD and SIBLINGS",
                TreeEdgesTest::removeTakesOut);
        edges.of("Promise 12", "its PARENT and SIBLING are 0: 1", TreeEdgesTest::removeClears);
        edges.of("Promise 12", "also when its PARENT was 0 before", TreeEdgesTest::removeWithoutAParent);
        edges.of("Promise 12", "-1", TreeEdgesTest::removeOfNone);
        edges.of("Promise 12", "-3: its PARENT is neither 0 nor an object", TreeEdgesTest::removeWithAStrayParent);
        edges.of("Promise 12", "or going along SIBLINGS from the PARENT's CHILD, that one too, does not come to it",
                TreeEdgesTest::removeOutsideTheRow);
    }

    private static void attribute() {
        edges.of("Promise 13", "Attribute n: act 0: whether it is (1, 0)", TreeEdgesTest::attributeIs);
        edges.of("Promise 13", "1: it is, 2: it is not, from now on: 1", TreeEdgesTest::attributeFromNowOn);
        edges.of("Promise 13", "-1", TreeEdgesTest::attributeOfNone);
        edges.of("Promise 13", "-2: n, act", TreeEdgesTest::attributeOutside);
    }

    private static void within() {
        edges.of("Promise 22", "The k-th object (from 0) of those within an object: it itself", TreeEdgesTest::itItself);
        edges.of("Promise 22", "then, child by child as SIBLINGS stand, all within each, in this order",
                TreeEdgesTest::childByChild);
        edges.of("Promise 22", "an object that was met already is not gone into again, and its row is left there",
                TreeEdgesTest::metAlready);
        edges.of("Promise 22", "0: there are not so many", TreeEdgesTest::notSoMany);
        edges.of("Promise 22", "-1", TreeEdgesTest::withinNone);
        edges.of("Promise 22", "-2: k below 0", TreeEdgesTest::withinBelowNought);
    }

    private static int link(ZObjects x, int object, int which) {
        return which == 0 ? x.parent(object) : which == 1 ? x.sibling(object) : x.child(object);
    }

    private static int[] links(int version) {
        return new int[] {0, 1, 3, 4, 100, 101, 127, 128, Story.highestLink(version)};
    }

    private static void parentAsItStands(int version) {
        ZObjects x = Story.plain(version, 3);
        for (int link : links(version)) {
            Story.setParent(x, version, 2, link);
            due.is("links of 2", Story.links(x, 2), link + " 0 0");
        }
        due.is("links of 1", Story.links(x, 1), "0 0 0");
        due.is("links of 3", Story.links(x, 3), "0 0 0");
    }

    private static void childAsItStands(int version) {
        ZObjects x = Story.plain(version, 3);
        for (int link : links(version)) {
            Story.setChild(x, version, 2, link);
            due.is("links of 2", Story.links(x, 2), "0 0 " + link);
        }
        due.is("links of 1", Story.links(x, 1), "0 0 0");
        due.is("links of 3", Story.links(x, 3), "0 0 0");
    }

    private static void siblingAsItStands(int version) {
        ZObjects x = Story.plain(version, 3);
        for (int link : links(version)) {
            Story.setSibling(x, version, 2, link);
            due.is("links of 2", Story.links(x, 2), "0 " + link + " 0");
        }
        due.is("links of 1", Story.links(x, 1), "0 0 0");
        due.is("links of 3", Story.links(x, 3), "0 0 0");
    }

    private static void linkOfNought(int version, int which) {
        due.is("of 0 without objects", link(new ZObjects(version), 0, which), 0);
        ZObjects x = Story.plain(version, 3);
        // What would be the entry of 0 are the last defaults.
        for (int n = Story.defaults(version) - 7; n <= Story.defaults(version); n++) {
            x.fallback(n, 0x0101);
        }
        due.is("of 0", link(x, 0, which), 0);
    }

    private static void linkOfNone(int version, int which) {
        ZObjects empty = new ZObjects(version);
        due.is("of 1 without objects", link(empty, 1, which), -1);
        ZObjects x = Story.plain(version, 3);
        for (int object : NONE_OF_THREE) {
            due.is("of " + object, link(x, object, which), -1);
        }
        due.is("of 3", link(x, 3, which), 0);
        x.object();
        due.is("of 4, an object now", link(x, 4, which), 0);
    }

    private static void moveTakesOut(int version) {
        int[] objects = {2, 3, 4};
        String[] left = {"1 4 3", "1 4 2", "1 3 2"};
        for (int i = 0; i < objects.length; i++) {
            ZObjects x = Story.plain(version, 5);
            x.move(2, 1);
            x.move(3, 1);
            x.move(4, 1);
            due.is("move(" + objects[i] + ", 5)", x.move(objects[i], 5), 1);
            due.is("within 1", Story.within(x, 1), left[i]);
            due.is("sibling of the moved one", x.sibling(objects[i]), 0);
            due.is("within 5", Story.within(x, 5), "5 " + objects[i]);
            due.is("faults", Story.faults(x), "0");
        }
    }

    private static void moveMakesFirst(int version) {
        ZObjects x = Story.plain(version, 4);
        due.is("move(2, 1), the only one", x.move(2, 1), 1);
        due.is("child(1)", x.child(1), 2);
        due.is("move(3, 1), before it", x.move(3, 1), 1);
        due.is("child(1)", x.child(1), 3);
        due.is("move(2, 1), from the end to the front", x.move(2, 1), 1);
        due.is("within 1", Story.within(x, 1), "1 2 3");
        due.is("move(2, 1), the first already", x.move(2, 1), 1);
        due.is("within 1", Story.within(x, 1), "1 2 3");
        due.is("move(4, 2), without a parent before", x.move(4, 2), 1);
        due.is("within 1", Story.within(x, 1), "1 2 4 3");
        due.is("move(2, 3), with what is within it", x.move(2, 3), 1);
        due.is("within 1", Story.within(x, 1), "1 3 2 4");
    }

    private static void moveKeepsTheRow(int version) {
        ZObjects x = Story.plain(version, 4);
        x.move(2, 1);
        due.is("sibling(2), of the only one", x.sibling(2), 0);
        x.move(3, 1);
        due.is("sibling(3)", x.sibling(3), 2);
        // What was the first CHILD once it is taken out, which is not the object itself.
        x.move(3, 1);
        due.is("sibling(3) behind move(3, 1)", x.sibling(3), 2);
        due.is("child(1)", x.child(1), 3);
        int high = Story.highestLink(version);
        Story.setChild(x, version, 4, high);
        due.is("move(2, 4), whose CHILD is no object", x.move(2, 4), 1);
        due.is("links of 2", Story.links(x, 2), "4 " + high + " 0");
        due.is("links of 4", Story.links(x, 4), "0 0 2");
        // Not STRICT, an object may become its own first CHILD.
        ZObjects y = Story.plain(version, 2);
        y.move(2, 1);
        due.is("move(1, 1)", y.move(1, 1), 1);
        due.is("links of 1", Story.links(y, 1), "1 2 1");
        due.is("move(1, 1) again", y.move(1, 1), 1);
        due.is("links of 1", Story.links(y, 1), "1 2 1");
    }

    private static void moveTellsTheParent(int version) {
        ZObjects x = Story.plain(version, 3);
        due.is("move(1, 3)", x.move(1, 3), 1);
        due.is("parent(1)", x.parent(1), 3);
        due.is("move(1, 2)", x.move(1, 2), 1);
        due.is("parent(1)", x.parent(1), 2);
        ZObjects full = Story.bare(version, 100);
        due.is("move(1, 100)", full.move(1, 100), 1);
        due.is("links of 1", Story.links(full, 1), "100 0 0");
        due.is("move(100, 99)", full.move(100, 99), 1);
        due.is("links of 100", Story.links(full, 100), "99 0 1");
    }

    private static void moveOfNone(int version) {
        ZObjects x = Story.plain(version, 3);
        x.move(2, 1);
        int[] none = {0, -1, 4, 100, 101, 256 + 1, Integer.MIN_VALUE, Integer.MAX_VALUE};
        for (int object : none) {
            due.is("move(" + object + ", 1)", x.move(object, 1), -1);
            due.is("move(2, " + object + ")", x.move(2, object), -1);
            due.is("move(" + object + ", " + object + ")", x.move(object, object), -1);
        }
        due.is("within 1", Story.within(x, 1), "1 2");
        due.is("move(1, 1) without objects", new ZObjects(version).move(1, 1), -1);
    }

    private static void moveAsRemoveRefuses(int version) {
        ZObjects x = Story.plain(version, 3);
        int[] stray = {4, 101, Story.highestLink(version)};
        for (int parent : stray) {
            Story.setParent(x, version, 1, parent);
            due.is("move(1, 2) with PARENT " + parent, x.move(1, 2), -3);
            due.is("links of 1", Story.links(x, 1), parent + " 0 0");
        }
        Story.setParent(x, version, 1, 3);
        due.is("move(1, 2), not in the row of 3", x.move(1, 2), -3);
        due.is("move(1, 3), not in the row of 3", x.move(1, 3), -3);
        due.is("links of 1", Story.links(x, 1), "3 0 0");
        due.is("links of 2", Story.links(x, 2), "0 0 0");
        due.is("links of 3", Story.links(x, 3), "0 0 0");
        Story.setChild(x, version, 3, 1);
        due.is("move(1, 2), in the row of 3", x.move(1, 2), 1);
    }

    private static void strictMove(int version) {
        ZObjects x = Story.plain(version, 4);
        x.move(2, 1);
        x.move(3, 2);
        x.strict(true);
        due.is("move(1, 1)", x.move(1, 1), -3);
        due.is("move(1, 2)", x.move(1, 2), -3);
        due.is("move(1, 3)", x.move(1, 3), -3);
        due.is("move(2, 3)", x.move(2, 3), -3);
        due.is("within 1", Story.within(x, 1), "1 2 3");
        due.is("move(2, 1), out of it", x.move(2, 1), 1);
        due.is("move(3, 1), out of it", x.move(3, 1), 1);
        due.is("move(2, 3), its sibling", x.move(2, 3), 1);
        due.is("move(1, 4), another tree", x.move(1, 4), 1);
        due.is("within 4", Story.within(x, 4), "4 1 3 2");
        // PARENTS that stray or go round do not come to the object.
        ZObjects y = Story.plain(version, 4);
        y.strict(true);
        Story.setParent(y, version, 2, 9);
        due.is("move(1, 2), whose PARENT is none", y.move(1, 2), 1);
        Story.setParent(y, version, 3, 4);
        Story.setParent(y, version, 4, 3);
        due.is("move(2, 3) is stuck itself", y.move(2, 3), -3);
        due.is("move(1, 3), whose PARENTS go round", y.move(1, 3), 1);
        due.is("faults", Story.faults(y), "5 2:1 3:4 3:6 4:4 4:6");
        // As deep as can be, and without STRICT.
        ZObjects deep = Story.bare(version, 100);
        for (int object = 2; object <= 100; object++) {
            deep.move(object, object - 1);
        }
        deep.strict(true);
        due.is("move(1, 100), 99 PARENTS on", deep.move(1, 100), -3);
        due.is("move(2, 100), 98 PARENTS on", deep.move(2, 100), -3);
        due.is("move(100, 1)", deep.move(100, 1), 1);
        due.is("move(2, 100), its sibling now", deep.move(2, 100), 1);
        deep.strict(false);
        due.is("move(1, 99), not STRICT", deep.move(1, 99), 1);
        due.is("parent(1)", deep.parent(1), 99);
    }

    private static void removeTakesOut(int version) {
        int[] objects = {2, 3, 4};
        String[] left = {"1 4 3", "1 4 2", "1 3 2"};
        for (int i = 0; i < objects.length; i++) {
            ZObjects x = Story.plain(version, 5);
            x.move(2, 1);
            x.move(3, 1);
            x.move(4, 1);
            x.move(5, objects[i]);
            due.is("remove(" + objects[i] + ")", x.remove(objects[i]), 1);
            due.is("within 1", Story.within(x, 1).replace(" 5", ""), left[i]);
            due.is("what is within it stays", Story.within(x, objects[i]), objects[i] + " 5");
            due.is("faults", Story.faults(x), "0");
        }
        ZObjects only = Story.plain(version, 2);
        only.move(2, 1);
        due.is("remove(2), the only one", only.remove(2), 1);
        due.is("links of 1", Story.links(only, 1), "0 0 0");
        // What stands behind it comes into its place as it stands.
        ZObjects stray = Story.plain(version, 3);
        stray.move(3, 1);
        stray.move(2, 1);
        Story.setSibling(stray, version, 3, 99);
        due.is("remove(3), whose SIBLING is none", stray.remove(3), 1);
        due.is("sibling(2)", stray.sibling(2), 99);
        due.is("remove(2), whose SIBLING is none", stray.remove(2), 1);
        due.is("child(1)", stray.child(1), 99);
    }

    private static void removeClears(int version) {
        ZObjects x = Story.plain(version, 4);
        x.move(2, 1);
        x.move(3, 1);
        x.move(4, 3);
        due.is("remove(3)", x.remove(3), 1);
        due.is("links of 3", Story.links(x, 3), "0 0 4");
        due.is("remove(2)", x.remove(2), 1);
        due.is("links of 2", Story.links(x, 2), "0 0 0");
        // One that is its own PARENT and CHILD, and one that is its own SIBLING.
        ZObjects y = Story.plain(version, 3);
        y.move(1, 1);
        due.is("remove(1), its own PARENT", y.remove(1), 1);
        due.is("links of 1", Story.links(y, 1), "0 0 0");
        y.move(3, 2);
        Story.setSibling(y, version, 3, 3);
        due.is("remove(3), its own SIBLING", y.remove(3), 1);
        due.is("links of 3", Story.links(y, 3), "0 0 0");
    }

    private static void removeWithoutAParent(int version) {
        ZObjects x = Story.plain(version, 3);
        due.is("remove(1)", x.remove(1), 1);
        due.is("remove(1) again", x.remove(1), 1);
        int[] siblings = {2, 99, Story.highestLink(version)};
        for (int sibling : siblings) {
            Story.setSibling(x, version, 1, sibling);
            due.is("remove(1) with SIBLING " + sibling, x.remove(1), 1);
            due.is("links of 1", Story.links(x, 1), "0 0 0");
        }
        // Where its PARENT is 0 there is no row to take it out of, even if one names it.
        Story.setChild(x, version, 2, 1);
        Story.setSibling(x, version, 3, 1);
        due.is("remove(1), which others name", x.remove(1), 1);
        due.is("child(2)", x.child(2), 1);
        due.is("sibling(3)", x.sibling(3), 1);
    }

    private static void removeOfNone(int version) {
        ZObjects x = Story.plain(version, 3);
        due.is("remove(0)", x.remove(0), -1);
        for (int object : NONE_OF_THREE) {
            due.is("remove(" + object + ")", x.remove(object), -1);
        }
        due.is("remove(1) without objects", new ZObjects(version).remove(1), -1);
    }

    private static void removeWithAStrayParent(int version) {
        ZObjects x = Story.plain(version, 3);
        Story.setSibling(x, version, 1, 2);
        int[] stray = {4, 100, 101, 128, Story.highestLink(version)};
        for (int parent : stray) {
            Story.setParent(x, version, 1, parent);
            due.is("remove(1) with PARENT " + parent, x.remove(1), -3);
            due.is("links of 1", Story.links(x, 1), parent + " 2 0");
        }
        // What would be the entry of 4 says that 1 is its CHILD, but 4 is no object.
        Story.setParent(x, version, 1, 4);
        Story.setChild(x, version, 4, 1);
        due.is("remove(1) from what would be 4", x.remove(1), -3);
        Story.setParent(x, version, 1, 3);
        Story.setChild(x, version, 3, 1);
        due.is("remove(1) from 3, the last object", x.remove(1), 1);
    }

    private static void removeOutsideTheRow(int version) {
        ZObjects x = Story.plain(version, 4);
        Story.setParent(x, version, 4, 1);
        due.is("remove(4), the CHILD is 0", x.remove(4), -3);
        Story.setChild(x, version, 1, 77);
        due.is("remove(4), the CHILD is none", x.remove(4), -3);
        Story.setChild(x, version, 1, 2);
        due.is("remove(4), the row ends before", x.remove(4), -3);
        Story.setSibling(x, version, 2, 77);
        due.is("remove(4), the row strays before", x.remove(4), -3);
        Story.setSibling(x, version, 2, 2);
        due.is("remove(4), the row goes round", x.remove(4), -3);
        Story.setSibling(x, version, 2, 3);
        Story.setSibling(x, version, 3, 2);
        due.is("remove(4), the row goes round by two", x.remove(4), -3);
        due.is("links of 4", Story.links(x, 4), "1 0 0");
        due.is("links of 1", Story.links(x, 1), "0 0 2");
        Story.setSibling(x, version, 3, 4);
        due.is("remove(4), at the end of the row", x.remove(4), 1);
        due.is("sibling(3)", x.sibling(3), 0);
        Story.setParent(x, version, 2, 1);
        due.is("remove(2), that CHILD itself", x.remove(2), 1);
        due.is("child(1)", x.child(1), 3);
    }

    private static void attributeIs(int version) {
        ZObjects x = Story.plain(version, 2);
        int last = Story.isWide(version) ? 47 : 31;
        int[] numbers = {0, 1, 7, 8, last - 1, last};
        for (int n : numbers) {
            due.is("attribute(1, " + n + ", 0)", x.attribute(1, n, 0), 0);
            due.is("attribute(1, " + n + ", 0) again", x.attribute(1, n, 0), 0);
            x.attribute(1, n, 1);
            due.is("attribute(1, " + n + ", 0)", x.attribute(1, n, 0), 1);
            due.is("attribute(1, " + n + ", 0) again", x.attribute(1, n, 0), 1);
            due.is("attribute(2, " + n + ", 0)", x.attribute(2, n, 0), 0);
        }
    }

    private static void attributeFromNowOn(int version) {
        ZObjects x = Story.plain(version, 2);
        int last = Story.isWide(version) ? 47 : 31;
        for (int n = 0; n <= last; n++) {
            due.is("attribute(2, " + n + ", 1)", x.attribute(2, n, 1), 1);
        }
        due.is("attribute(2, 3, 1), which it is", x.attribute(2, 3, 1), 1);
        due.is("attribute(2, 3, 0)", x.attribute(2, 3, 0), 1);
        due.is("attribute(2, 3, 2)", x.attribute(2, 3, 2), 1);
        due.is("attribute(2, 3, 0)", x.attribute(2, 3, 0), 0);
        due.is("attribute(2, 3, 2), which it is not", x.attribute(2, 3, 2), 1);
        due.is("attribute(2, 3, 0)", x.attribute(2, 3, 0), 0);
        for (int n = 0; n <= last; n++) {
            due.is("attribute(2, " + n + ", 0)", x.attribute(2, n, 0), n == 3 ? 0 : 1);
        }
        due.is("links of 2, behind its attributes", Story.links(x, 2), "0 0 0");
        due.is("table of 1, before its attributes", Story.table(x, version, 1), 1792);
    }

    private static void attributeOfNone(int version) {
        ZObjects x = Story.plain(version, 3);
        due.is("attribute(0, 0, 0)", x.attribute(0, 0, 0), -1);
        for (int object : NONE_OF_THREE) {
            for (int act = -1; act <= 3; act++) {
                due.is("attribute(" + object + ", 0, " + act + ")", x.attribute(object, 0, act), -1);
            }
            due.is("attribute(" + object + ", -1, 0)", x.attribute(object, -1, 0), -1);
        }
    }

    private static void attributeOutside(int version) {
        ZObjects x = Story.plain(version, 1);
        int many = Story.isWide(version) ? 48 : 32;
        int[] numbers = {-1, -8, many, many + 1, 64, 256, Integer.MIN_VALUE, Integer.MAX_VALUE};
        for (int n : numbers) {
            for (int act = 0; act <= 2; act++) {
                due.is("attribute(1, " + n + ", " + act + ")", x.attribute(1, n, act), -2);
            }
        }
        int[] acts = {-1, 3, 4, 256, Integer.MIN_VALUE, Integer.MAX_VALUE};
        for (int act : acts) {
            due.is("attribute(1, 0, " + act + ")", x.attribute(1, 0, act), -2);
            due.is("attribute(1, last, " + act + ")", x.attribute(1, many - 1, act), -2);
            due.is("attribute(1, -1, " + act + ")", x.attribute(1, -1, act), -2);
        }
        for (int i = 0; i < many / 8 + 1; i++) {
            due.is("byte " + i + " of the entry", x.peek(Story.entry(version, 1) + i), 0);
        }
    }

    private static void itItself(int version) {
        ZObjects x = Story.plain(version, 3);
        due.is("within 2, with none in it", Story.within(x, 2), "2");
        x.move(2, 1);
        x.move(3, 2);
        due.is("within(1, 0)", x.within(1, 0), 1);
        due.is("within(2, 0)", x.within(2, 0), 2);
        due.is("within(3, 0)", x.within(3, 0), 3);
        due.is("within(1, 1)", x.within(1, 1), 2);
        due.is("within(1, 2)", x.within(1, 2), 3);
        due.is("within(100, 0)", Story.bare(version, 100).within(100, 0), 100);
    }

    private static void childByChild(int version) {
        ZObjects x = Story.plain(version, 8);
        int[][] moves = {{4, 1}, {3, 1}, {2, 1}, {6, 2}, {5, 2}, {7, 5}, {8, 4}};
        for (int[] m : moves) {
            x.move(m[0], m[1]);
        }
        due.is("within 1", Story.within(x, 1), "1 2 5 7 6 3 4 8");
        due.is("within 2, not its siblings", Story.within(x, 2), "2 5 7 6");
        due.is("within 8, the last", Story.within(x, 8), "8");
        // By CHILD and SIBLINGS alone, whatever PARENTS say.
        for (int object = 1; object <= 8; object++) {
            Story.setParent(x, version, object, 99);
        }
        due.is("within 1 without PARENTS", Story.within(x, 1), "1 2 5 7 6 3 4 8");
        ZObjects broad = Story.bare(version, 100);
        for (int object = 2; object <= 100; object++) {
            broad.move(object, 1);
        }
        due.is("within(1, 1) of 100", broad.within(1, 1), 100);
        due.is("within(1, 99) of 100", broad.within(1, 99), 2);
        due.is("within(1, 100) of 100", broad.within(1, 100), 0);
        ZObjects deep = Story.bare(version, 100);
        for (int object = 2; object <= 100; object++) {
            deep.move(object, object - 1);
        }
        due.is("within(1, 99) of a deep one", deep.within(1, 99), 100);
        due.is("within(1, 100) of a deep one", deep.within(1, 100), 0);
    }

    private static void metAlready(int version) {
        ZObjects x = Story.plain(version, 6);
        x.move(4, 1);
        x.move(3, 1);
        x.move(2, 1);
        Story.setSibling(x, version, 4, 2);
        due.is("a row that goes round", Story.within(x, 1), "1 2 3 4");
        Story.setSibling(x, version, 4, 4);
        due.is("a row that stands still", Story.within(x, 1), "1 2 3 4");
        Story.setSibling(x, version, 4, 1);
        due.is("a row that leads back to it itself", Story.within(x, 1), "1 2 3 4");
        // 4 is met within 2; the row of 1 is left when it comes to 4.
        Story.setChild(x, version, 2, 4);
        Story.setSibling(x, version, 4, 0);
        due.is("a row left at one that was met", Story.within(x, 1), "1 2 4 3");
        Story.setSibling(x, version, 4, 5);
        due.is("what stands behind 4 was met there too", Story.within(x, 1), "1 2 4 5 3");
        // 4 is within 2 and names 2 as its CHILD: 3 behind 2 does not come before 5 behind 4.
        ZObjects y = Story.plain(version, 6);
        y.move(3, 1);
        y.move(2, 1);
        y.move(5, 2);
        y.move(4, 2);
        Story.setChild(y, version, 4, 2);
        due.is("a row that begins with one that was met", Story.within(y, 1), "1 2 4 5 3");
        // 6 stands behind 1 itself, whose row is left as well.
        Story.setChild(y, version, 4, 1);
        Story.setSibling(y, version, 1, 6);
        due.is("a row that begins with it itself", Story.within(y, 1), "1 2 4 5 3");
        ZObjects z = Story.plain(version, 2);
        z.move(1, 1);
        due.is("its own child", Story.within(z, 1), "1");
        z.move(2, 1);
        due.is("its own child, behind another", Story.within(z, 1), "1 2");
        ZObjects w = Story.plain(version, 3);
        w.move(2, 1);
        w.move(3, 2);
        w.move(1, 3);
        due.is("a ring of three", Story.within(w, 1), "1 2 3");
        due.is("a ring of three", Story.within(w, 3), "3 1 2");
    }

    private static void notSoMany(int version) {
        ZObjects x = Story.plain(version, 3);
        x.move(2, 1);
        due.is("within(1, 1), the last", x.within(1, 1), 2);
        due.is("within(1, 2)", x.within(1, 2), 0);
        due.is("within(3, 1)", x.within(3, 1), 0);
        int[] high = {100, 101, 256, 65536, Integer.MAX_VALUE};
        for (int k : high) {
            due.is("within(1, " + k + ")", x.within(1, k), 0);
        }
        int[] stray = {4, 99, Story.highestLink(version)};
        for (int link : stray) {
            Story.setChild(x, version, 3, link);
            due.is("within(3, 1) with CHILD " + link, x.within(3, 1), 0);
            Story.setSibling(x, version, 2, link);
            due.is("within(1, 2) with SIBLING " + link, x.within(1, 2), 0);
        }
    }

    private static void withinNone(int version) {
        ZObjects x = Story.plain(version, 3);
        due.is("within(0, 0)", x.within(0, 0), -1);
        for (int object : NONE_OF_THREE) {
            due.is("within(" + object + ", 0)", x.within(object, 0), -1);
            due.is("within(" + object + ", -1)", x.within(object, -1), -1);
        }
    }

    private static void withinBelowNought(int version) {
        ZObjects x = Story.plain(version, 3);
        int[] below = {-1, -2, -100, Integer.MIN_VALUE};
        for (int k : below) {
            due.is("within(1, " + k + ")", x.within(1, k), -2);
        }
        due.is("within(1, 0)", x.within(1, 0), 1);
    }
}
