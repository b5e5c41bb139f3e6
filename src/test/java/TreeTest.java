/** Promises 8 to 13 and 22: the links, move, remove, attribute, within. */
public final class TreeTest {
    private static final Due due = new Due("TreeTest");

    public static void main(String[] args) {
        for (int version = 1; version <= 8; version++) {
            linksAsTheyStand(version);
            moveMakesTheFirstChild(version);
            moveRefuses(version);
            moveIntoItself(version);
            strictMove(version);
            strictMoveAlongBrokenParents(version);
            removeTakesOut(version);
            removeWithoutAParent(version);
            removeRefuses(version);
            removeFromARing(version);
            attributes(version);
            attributesRefuse(version);
            withinInOrder(version);
            withinBrokenRows(version);
            withinAllHundred(version);
        }
        due.end();
    }

    private static ZObjects of(int version, int many) {
        ZObjects x = new ZObjects(version);
        Story.makePlain(x, many);
        return x;
    }

    private static void linksAsTheyStand(int version) {
        ZObjects x = of(version, 2);
        int high = Story.isWide(version) ? 65535 : 255;
        Story.setParent(x, version, 2, high);
        Story.setSibling(x, version, 2, high - 1);
        Story.setChild(x, version, 2, high - 2);
        due.is("parent(2)", x.parent(2), high);
        due.is("sibling(2)", x.sibling(2), high - 1);
        due.is("child(2)", x.child(2), high - 2);
        due.is("links of 1", Story.links(x, 1), "0 0 0");
        due.is("links of 0", Story.links(x, 0), "0 0 0");
        int[] unknown = {-1, 3, 101, 318, Integer.MIN_VALUE, Integer.MAX_VALUE};
        for (int object : unknown) {
            due.is("links of " + object, Story.links(x, object), "-1 -1 -1");
        }
        // The parts of the entry in their order: parent, sibling, child.
        ZObjects y = of(version, 4);
        y.move(2, 1);
        y.move(3, 1);
        y.move(4, 3);
        int at = Story.entry(version, 3) + (Story.isWide(version) ? 7 : 4);
        int step = Story.isWide(version) ? 2 : 1;
        due.is("the parent's byte", y.peek(at), 1);
        due.is("the sibling's byte", y.peek(at + step), 2);
        due.is("the child's byte", y.peek(at + 2 * step), 4);
    }

    private static void moveMakesTheFirstChild(int version) {
        ZObjects x = of(version, 5);
        due.is("move(2, 1)", x.move(2, 1), 1);
        due.is("move(3, 1)", x.move(3, 1), 1);
        due.is("move(4, 1)", x.move(4, 1), 1);
        due.is("links of 1", Story.links(x, 1), "0 0 4");
        due.is("links of 4", Story.links(x, 4), "1 3 0");
        due.is("links of 3", Story.links(x, 3), "1 2 0");
        due.is("links of 2", Story.links(x, 2), "1 0 0");
        due.is("move(3, 5) out of the middle", x.move(3, 5), 1);
        due.is("links of 3", Story.links(x, 3), "5 0 0");
        due.is("links of 4", Story.links(x, 4), "1 2 0");
        due.is("links of 5", Story.links(x, 5), "0 0 3");
        due.is("move(2, 1) to the front of its own row", x.move(2, 1), 1);
        due.is("links of 1", Story.links(x, 1), "0 0 2");
        due.is("links of 2", Story.links(x, 2), "1 4 0");
        due.is("links of 4", Story.links(x, 4), "1 0 0");
        due.is("move(2, 1) of the first", x.move(2, 1), 1);
        due.is("within 1", Story.within(x, 1), "1 2 4");
        due.is("move(1, 3) with all within it", x.move(1, 3), 1);
        due.is("within 5", Story.within(x, 5), "5 3 1 2 4");
    }

    private static void moveRefuses(int version) {
        ZObjects x = of(version, 3);
        int[] unknown = {0, -1, 4, Integer.MAX_VALUE, Integer.MIN_VALUE};
        for (int object : unknown) {
            due.is("move(" + object + ", 1)", x.move(object, 1), -1);
            due.is("move(1, " + object + ")", x.move(1, object), -1);
        }
        Story.setParent(x, version, 1, 4);
        due.is("move(1, 2) with a stray parent", x.move(1, 2), -3);
        due.is("move(1, 0) with a stray parent", x.move(1, 0), -1);
        Story.setParent(x, version, 1, 3);
        due.is("move(1, 2) that is not in its parent's row", x.move(1, 2), -3);
        due.is("links of 1", Story.links(x, 1), "3 0 0");
        due.is("links of 2", Story.links(x, 2), "0 0 0");
    }

    private static void moveIntoItself(int version) {
        ZObjects x = of(version, 3);
        x.move(2, 1);
        x.move(3, 2);
        due.is("move(2, 2)", x.move(2, 2), 1);
        due.is("links of 1", Story.links(x, 1), "0 0 0");
        due.is("links of 2", Story.links(x, 2), "2 3 2");
        due.is("links of 3", Story.links(x, 3), "2 0 0");
        due.is("move(2, 1) out of itself", x.move(2, 1), 1);
        due.is("links of 2", Story.links(x, 2), "1 0 3");
        due.is("move(1, 3) into what is within it", x.move(1, 3), 1);
        due.is("links of 1", Story.links(x, 1), "3 0 2");
    }

    private static void strictMove(int version) {
        ZObjects x = of(version, 4);
        x.move(2, 1);
        x.move(3, 2);
        x.strict(true);
        due.is("strict move(1, 1)", x.move(1, 1), -3);
        due.is("strict move(1, 2)", x.move(1, 2), -3);
        due.is("strict move(1, 3)", x.move(1, 3), -3);
        due.is("strict move(2, 3)", x.move(2, 3), -3);
        due.is("links of 1", Story.links(x, 1), "0 0 2");
        due.is("links of 2", Story.links(x, 2), "1 0 3");
        due.is("strict move(2, 1)", x.move(2, 1), 1);
        due.is("strict move(1, 4)", x.move(1, 4), 1);
        due.is("strict move(3, 4)", x.move(3, 4), 1);
        due.is("strict move(4, 9)", x.move(4, 9), -1);
        x.strict(false);
        due.is("move(4, 3) when not strict", x.move(4, 3), 1);
        due.is("links of 4", Story.links(x, 4), "3 0 3");
    }

    private static void strictMoveAlongBrokenParents(int version) {
        ZObjects x = of(version, 4);
        x.strict(true);
        Story.setParent(x, version, 2, 3);
        Story.setParent(x, version, 3, 2);
        due.is("strict move(1, 2), whose parents go round", x.move(1, 2), 1);
        due.is("links of 1", Story.links(x, 1), "2 0 0");
        Story.setParent(x, version, 3, 200);
        due.is("strict move(4, 3), whose parent is stray", x.move(4, 3), 1);
        due.is("links of 4", Story.links(x, 4), "3 0 0");
    }

    private static void removeTakesOut(int version) {
        ZObjects x = of(version, 5);
        for (int object = 2; object <= 5; object++) {
            x.move(object, 1);
        }
        x.move(3, 4);
        x.move(4, 1);
        due.is("within 1", Story.within(x, 1), "1 4 3 5 2");
        due.is("remove(5) out of the middle", x.remove(5), 1);
        due.is("links of 5", Story.links(x, 5), "0 0 0");
        due.is("links of 4", Story.links(x, 4), "1 2 3");
        due.is("remove(4), the first", x.remove(4), 1);
        due.is("links of 4", Story.links(x, 4), "0 0 3");
        due.is("links of 3", Story.links(x, 3), "4 0 0");
        due.is("links of 1", Story.links(x, 1), "0 0 2");
        x.move(5, 1);
        due.is("remove(2), the last", x.remove(2), 1);
        due.is("links of 5", Story.links(x, 5), "1 0 0");
        due.is("remove(5), the only one", x.remove(5), 1);
        due.is("links of 1", Story.links(x, 1), "0 0 0");
    }

    private static void removeWithoutAParent(int version) {
        ZObjects x = of(version, 3);
        due.is("remove(1) without a parent", x.remove(1), 1);
        Story.setSibling(x, version, 1, 2);
        Story.setChild(x, version, 1, 3);
        due.is("remove(1) without a parent, with a sibling", x.remove(1), 1);
        due.is("links of 1", Story.links(x, 1), "0 0 3");
    }

    private static void removeRefuses(int version) {
        ZObjects x = of(version, 3);
        int[] unknown = {0, -1, 4, Integer.MAX_VALUE, Integer.MIN_VALUE};
        for (int object : unknown) {
            due.is("remove(" + object + ")", x.remove(object), -1);
        }
        Story.setParent(x, version, 1, 4);
        Story.setSibling(x, version, 1, 2);
        due.is("remove(1) with a stray parent", x.remove(1), -3);
        due.is("links of 1", Story.links(x, 1), "4 2 0");
        Story.setParent(x, version, 1, 3);
        due.is("remove(1) from a parent without children", x.remove(1), -3);
        Story.setChild(x, version, 3, 2);
        Story.setSibling(x, version, 2, 2);
        due.is("remove(1) from a row that goes round", x.remove(1), -3);
        Story.setSibling(x, version, 2, 77);
        due.is("remove(1) from a row that strays", x.remove(1), -3);
        due.is("links of 1", Story.links(x, 1), "3 2 0");
        due.is("links of 2", Story.links(x, 2), "0 77 0");
        due.is("links of 3", Story.links(x, 3), "0 0 2");
        Story.setSibling(x, version, 2, 1);
        Story.setSibling(x, version, 1, 99);
        due.is("remove(1) with a stray sibling", x.remove(1), 1);
        due.is("links of 1", Story.links(x, 1), "0 0 0");
        due.is("links of 2", Story.links(x, 2), "0 99 0");
    }

    private static void removeFromARing(int version) {
        ZObjects x = of(version, 3);
        x.move(2, 1);
        x.move(3, 1);
        Story.setSibling(x, version, 2, 3);
        due.is("remove(2) from a row that goes round", x.remove(2), 1);
        due.is("links of 1", Story.links(x, 1), "0 0 3");
        due.is("links of 2", Story.links(x, 2), "0 0 0");
        due.is("links of 3", Story.links(x, 3), "1 3 0");
    }

    private static void attributes(int version) {
        ZObjects x = of(version, 2);
        int many = Story.isWide(version) ? 48 : 32;
        for (int n = 0; n < many; n++) {
            due.is("attribute(2, n, 0)", x.attribute(2, n, 0), 0);
            due.is("attribute(2, n, 1)", x.attribute(2, n, 1), 1);
            due.is("its byte", x.peek(Story.entry(version, 2) + n / 8), 128 >> n % 8);
            due.is("attribute(2, n, 0)", x.attribute(2, n, 0), 1);
            due.is("attribute(2, n, 2)", x.attribute(2, n, 2), 1);
            due.is("its byte", x.peek(Story.entry(version, 2) + n / 8), 0);
        }
        x.poke(Story.entry(version, 2) + 1, 0x5a);
        due.is("attribute(2, 8, 0)", x.attribute(2, 8, 0), 0);
        due.is("attribute(2, 9, 0)", x.attribute(2, 9, 0), 1);
        x.attribute(2, 9, 1);
        x.attribute(2, 8, 2);
        due.is("the byte, as it was", x.peek(Story.entry(version, 2) + 1), 0x5a);
        x.attribute(2, 8, 1);
        x.attribute(2, 9, 2);
        due.is("the byte with two others", x.peek(Story.entry(version, 2) + 1), 0x9a);
        due.is("links of 2", Story.links(x, 2), "0 0 0");
    }

    private static void attributesRefuse(int version) {
        ZObjects x = of(version, 1);
        int many = Story.isWide(version) ? 48 : 32;
        int[] outside = {-1, many, Integer.MIN_VALUE, Integer.MAX_VALUE};
        for (int n : outside) {
            for (int act = 0; act <= 2; act++) {
                due.is("attribute(1, " + n + ", " + act + ")", x.attribute(1, n, act), -2);
            }
        }
        int[] acts = {-1, 3, Integer.MIN_VALUE, Integer.MAX_VALUE};
        for (int act : acts) {
            due.is("attribute(1, 0, " + act + ")", x.attribute(1, 0, act), -2);
        }
        int[] unknown = {0, -1, 2, Integer.MAX_VALUE};
        for (int object : unknown) {
            due.is("attribute(" + object + ", 99, 9)", x.attribute(object, 99, 9), -1);
        }
    }

    private static void withinInOrder(int version) {
        ZObjects x = of(version, 8);
        // 1 holds 2, 3, 4; 2 holds 5, 6; 5 holds 7; 4 holds 8.
        int[][] moves = {{4, 1}, {3, 1}, {2, 1}, {6, 2}, {5, 2}, {7, 5}, {8, 4}};
        for (int[] m : moves) {
            x.move(m[0], m[1]);
        }
        due.is("within 1", Story.within(x, 1), "1 2 5 7 6 3 4 8");
        due.is("within 2, without its siblings", Story.within(x, 2), "2 5 7 6");
        due.is("within 3", Story.within(x, 3), "3");
        due.is("within(1, 8)", x.within(1, 8), 0);
        due.is("within(1, max)", x.within(1, Integer.MAX_VALUE), 0);
        due.is("within(1, -1)", x.within(1, -1), -2);
        due.is("within(1, min)", x.within(1, Integer.MIN_VALUE), -2);
        due.is("within(0, 0)", x.within(0, 0), -1);
        due.is("within(9, -1)", x.within(9, -1), -1);
    }

    private static void withinBrokenRows(int version) {
        ZObjects x = of(version, 6);
        // 1 holds 2, 3, 4, and 3 says that 2 is its child: the row of 3's children is left there, 4 still comes.
        x.move(4, 1);
        x.move(3, 1);
        x.move(2, 1);
        Story.setChild(x, version, 3, 2);
        due.is("within 1 with a child that was met", Story.within(x, 1), "1 2 3 4");
        // The row of 2's children leads on into that of 1.
        x.move(5, 2);
        Story.setSibling(x, version, 5, 3);
        due.is("within 1 with rows that join", Story.within(x, 1), "1 2 5 3 4");
        Story.setSibling(x, version, 4, 2);
        due.is("within 1 with a row that goes round", Story.within(x, 1), "1 2 5 3 4");
        Story.setSibling(x, version, 4, 1);
        Story.setChild(x, version, 4, 1);
        due.is("within 1 that names itself", Story.within(x, 1), "1 2 5 3 4");
        Story.setChild(x, version, 4, 250);
        Story.setSibling(x, version, 5, 7);
        due.is("within 1 with stray links", Story.within(x, 1), "1 2 5 3 4");
        Story.setChild(x, version, 6, 6);
        due.is("within 6, its own child", Story.within(x, 6), "6");
    }

    private static void withinAllHundred(int version) {
        ZObjects deep = new ZObjects(version);
        for (int i = 0; i < 100; i++) {
            deep.object();
        }
        for (int object = 100; object > 1; object--) {
            deep.move(object, object - 1);
        }
        for (int k = 0; k < 100; k++) {
            due.is("within(1, " + k + ") of a deep tree", deep.within(1, k), k + 1);
        }
        due.is("within(1, 100)", deep.within(1, 100), 0);
        due.is("within(100, 0)", deep.within(100, 0), 100);
        due.is("within(100, 1)", deep.within(100, 1), 0);
        due.is("move(1, 100) when not strict", deep.move(1, 100), 1);
        due.is("within(50, 99) of a ring", deep.within(50, 99), 49);
        due.is("within(50, 100) of a ring", deep.within(50, 100), 0);
        due.is("judge() of a ring: 99 tables in common, 100 rings", deep.judge(), 199);
        ZObjects broad = new ZObjects(version);
        for (int i = 0; i < 100; i++) {
            broad.object();
        }
        for (int object = 2; object <= 100; object++) {
            broad.move(object, 1);
        }
        for (int k = 1; k < 100; k++) {
            due.is("within(1, " + k + ") of a broad tree", broad.within(1, k), 101 - k);
        }
        due.is("within(1, 100)", broad.within(1, 100), 0);
        due.is("remove(2), the last of 99", broad.remove(2), 1);
        due.is("sibling(3)", broad.sibling(3), 0);
        broad.strict(true);
        due.is("strict move(1, 99)", broad.move(1, 99), -3);
    }
}
