/** Promises 14 to 19: property, put, next, address, length, fallback. */
public final class PropertiesTest {
    private static final Due due = new Due("PropertiesTest");

    public static void main(String[] args) {
        for (int version = 1; version <= 3; version++) {
            narrowSizes(version);
            narrowNumberNought(version);
        }
        for (int version = 4; version <= 8; version++) {
            wideSizes(version);
            wideSizeBytes(version);
            wideNumberNought(version);
        }
        for (int version = 1; version <= 8; version++) {
            propertiesBehindAName(version);
            firstOfANumber(version);
            putChangesBytes(version);
            refusals(version);
            defaultsAreWords(version);
            tablesAtTheEnd(version);
            tablesBeyond(version);
            lengthHasItsRange(version);
        }
        lengthsByEveryByte();
        due.end();
    }

    private static void narrowSizes(int version) {
        ZObjects x = new ZObjects(version);
        // Numbers 31 (8 bytes), 30 (1), 12 (2), 5 (3), 1 (1).
        Story.make(x, 0, 0xff, 1, 2, 3, 4, 5, 6, 7, 8, 30, 200, 32 + 12, 0x12, 0x34, 64 + 5, 1, 2, 3, 1, 9, 0);
        due.is("next(1, 0)", x.next(1, 0), 31);
        due.is("next(1, 31)", x.next(1, 31), 30);
        due.is("next(1, 30)", x.next(1, 30), 12);
        due.is("next(1, 12)", x.next(1, 12), 5);
        due.is("next(1, 5)", x.next(1, 5), 1);
        due.is("next(1, 1)", x.next(1, 1), 0);
        due.is("next(1, 2)", x.next(1, 2), -3);
        due.is("property(1, 31)", x.property(1, 31), -3);
        due.is("property(1, 30)", x.property(1, 30), 200);
        due.is("property(1, 12)", x.property(1, 12), 0x1234);
        due.is("property(1, 5)", x.property(1, 5), -3);
        due.is("property(1, 1)", x.property(1, 1), 9);
        int[][] at = {{31, 1794, 8}, {30, 1803, 1}, {12, 1805, 2}, {5, 1808, 3}, {1, 1812, 1}};
        for (int[] p : at) {
            due.is("address(1, " + p[0] + ")", x.address(1, p[0]), p[1]);
            due.is("length of " + p[0], x.length(p[1]), p[2]);
        }
        due.is("address(1, 2)", x.address(1, 2), 0);
    }

    private static void narrowNumberNought(int version) {
        ZObjects x = new ZObjects(version);
        // Byte 32 is a property of number 0 and SIZE 2, not the end.
        Story.make(x, 0, 32, 5, 6, 3, 77, 0, 4, 1, 0);
        due.is("next(1, 0): number 0 is first", x.next(1, 0), 0);
        due.is("property(1, 3) behind number 0", x.property(1, 3), 77);
        due.is("property(1, 4) behind the end", x.property(1, 4), 0);
        due.is("address(1, 4) behind the end", x.address(1, 4), 0);
    }

    private static void wideSizes(int version) {
        ZObjects x = new ZObjects(version);
        // Numbers 63 (1), 40 (2), 33 (3, with a size byte), 20 (1, with one), 19 (2, with one).
        Story.make(x, 0, 63, 200, 64 + 40, 0x12, 0x34, 128 + 33, 128 + 3, 1, 2, 3, 192 + 20, 1, 7,
                128 + 19, 64 + 2, 0xab, 0xcd, 0);
        due.is("next(1, 0)", x.next(1, 0), 63);
        due.is("next(1, 63)", x.next(1, 63), 40);
        due.is("next(1, 40)", x.next(1, 40), 33);
        due.is("next(1, 33)", x.next(1, 33), 20);
        due.is("next(1, 20)", x.next(1, 20), 19);
        due.is("next(1, 19)", x.next(1, 19), 0);
        due.is("next(1, 62)", x.next(1, 62), -3);
        due.is("property(1, 63)", x.property(1, 63), 200);
        due.is("property(1, 40)", x.property(1, 40), 0x1234);
        due.is("property(1, 33)", x.property(1, 33), -3);
        due.is("property(1, 20)", x.property(1, 20), 7);
        due.is("property(1, 19)", x.property(1, 19), 0xabcd);
        int[][] at = {{63, 1794, 1}, {40, 1796, 2}, {33, 1800, 3}, {20, 1805, 1}, {19, 1808, 2}};
        for (int[] p : at) {
            due.is("address(1, " + p[0] + ")", x.address(1, p[0]), p[1]);
            due.is("length of " + p[0], x.length(p[1]), p[2]);
        }
        due.is("address(1, 1)", x.address(1, 1), 0);
    }

    private static void wideSizeBytes(int version) {
        int[][] sizes = {{0, 64}, {64, 64}, {128, 64}, {192, 64}, {63, 63}, {191, 63}, {255, 63}, {129, 1}, {65, 1}};
        for (int[] s : sizes) {
            ZObjects x = new ZObjects(version);
            int[] table = new int[3 + s[1] + 3];
            table[1] = 128 + 9;
            table[2] = s[0];
            table[3 + s[1]] = 8;
            table[3 + s[1] + 1] = 55;
            Story.make(x, table);
            due.is("next behind size byte " + s[0], x.next(1, 9), 8);
            due.is("address behind size byte " + s[0], x.address(1, 8), 1792 + 3 + s[1] + 1);
            due.is("property behind size byte " + s[0], x.property(1, 8), 55);
            due.is("property of size byte " + s[0], x.property(1, 9), s[1] == 1 ? 0 : -3);
        }
    }

    private static void wideNumberNought(int version) {
        int[][] rows = {{0, 64, 1, 2, 3, 77, 0}, {0, 128, 1, 9, 3, 77, 0}, {0, 192, 129, 9, 3, 77, 0}};
        for (int[] row : rows) {
            ZObjects x = new ZObjects(version);
            Story.make(x, row);
            due.is("next(1, 0): number 0 is first", x.next(1, 0), 0);
            due.is("property(1, 3) behind number 0", x.property(1, 3), 77);
        }
    }

    private static void propertiesBehindAName(int version) {
        ZObjects x = new ZObjects(version);
        // The name's first word has bit 15, but L words stand there all the same.
        Story.make(x, 3, 0x94, 0xa5, 7, 7, 7, 7, 5, 99, 0);
        due.is("next(1, 0)", x.next(1, 0), 5);
        due.is("property(1, 5)", x.property(1, 5), 99);
        due.is("address(1, 5)", x.address(1, 5), 1800);
        x.poke(1792, 1);
        due.is("next(1, 0) with another L", x.next(1, 0), 7);
    }

    private static void firstOfANumber(int version) {
        ZObjects x = new ZObjects(version);
        Story.make(x, 0, 5, 1, 6, 2, 5, 3, 4, 4, 0);
        due.is("property(1, 5)", x.property(1, 5), 1);
        due.is("next(1, 5)", x.next(1, 5), 6);
        due.is("next(1, 6)", x.next(1, 6), 5);
        due.is("address(1, 5)", x.address(1, 5), 1794);
        due.is("put(1, 5, 9)", x.put(1, 5, 9), 1);
        due.is("the first one", x.peek(1794), 9);
        due.is("the other one", x.peek(1798), 3);
    }

    private static void putChangesBytes(int version) {
        ZObjects x = new ZObjects(version);
        int two = Story.isWide(version) ? 64 : 32;
        int[] three = Story.isWide(version) ? new int[] {128 + 2, 128 + 3} : new int[] {64 + 2, 1};
        Story.make(x, 0, 9, 1, two + 8, 2, 3, three[0], three[1], 1, 1, 1, 0);
        due.is("put(1, 9, -1)", x.put(1, 9, -1), 1);
        due.is("property(1, 9)", x.property(1, 9), 255);
        due.is("put(1, 9, 256)", x.put(1, 9, 256), 1);
        due.is("property(1, 9)", x.property(1, 9), 0);
        due.is("the byte behind it", x.peek(1795), two + 8);
        due.is("put(1, 8, -2)", x.put(1, 8, -2), 1);
        due.is("property(1, 8)", x.property(1, 8), 65534);
        due.is("put(1, 8, 0x71234)", x.put(1, 8, 0x71234), 1);
        due.is("its higher byte", x.peek(1796), 0x12);
        due.is("its lower byte", x.peek(1797), 0x34);
        due.is("put(1, 2, 1) of SIZE 3", x.put(1, 2, 1), -3);
        due.is("put(1, 7, 1) that is not there", x.put(1, 7, 1), -3);
        due.is("property(1, 7), the default", x.property(1, 7), 0);
    }

    private static void refusals(int version) {
        ZObjects x = new ZObjects(version);
        Story.make(x, 0, 3, 1, 0);
        int[] outside = {-1, Story.defaults(version) + 1, 64, Integer.MIN_VALUE, Integer.MAX_VALUE};
        for (int n : outside) {
            due.is("property(1, " + n + ")", x.property(1, n), -2);
            due.is("put(1, " + n + ", 1)", x.put(1, n, 1), -2);
            due.is("next(1, " + n + ")", x.next(1, n), -2);
            due.is("address(1, " + n + ")", x.address(1, n), -2);
        }
        due.is("property(1, 0)", x.property(1, 0), -2);
        due.is("put(1, 0, 1)", x.put(1, 0, 1), -2);
        due.is("address(1, 0)", x.address(1, 0), -2);
        due.is("next(1, D)", x.next(1, Story.defaults(version)), -3);
        due.is("address(1, D)", x.address(1, Story.defaults(version)), 0);
        int[] unknown = {0, 2, -1, Integer.MIN_VALUE, Integer.MAX_VALUE};
        for (int object : unknown) {
            due.is("property(" + object + ", -1)", x.property(object, -1), -1);
            due.is("put(" + object + ", -1, 1)", x.put(object, -1, 1), -1);
            due.is("next(" + object + ", -1)", x.next(object, -1), -1);
            due.is("address(" + object + ", -1)", x.address(object, -1), -1);
        }
    }

    private static void defaultsAreWords(int version) {
        ZObjects x = new ZObjects(version);
        Story.make(x, 0, 1, 5, 0);
        int last = Story.defaults(version);
        due.is("fallback(1, 0x12345)", x.fallback(1, 0x12345), 0);
        due.is("fallback(last, -1)", x.fallback(last, -1), 0);
        due.is("the word at 256", Story.peekWord(x, 256), 0x2345);
        due.is("the last default's word", Story.peekWord(x, 254 + 2 * last), 65535);
        due.is("the object behind it", x.attribute(1, 0, 0), 0);
        due.is("property(1, last)", x.property(1, last), 65535);
        due.is("property(1, 1), which is there", x.property(1, 1), 5);
        due.is("put(1, 1, 6)", x.put(1, 1, 6), 1);
        due.is("property(1, 1)", x.property(1, 1), 6);
        due.is("address(1, 1)", x.address(1, 1), 1794);
        due.is("next(1, 1)", x.next(1, 1), 0);
        due.is("fallback(last, 2)", x.fallback(last, 2), 65535);
        x.poke(256 + 2, 0xfe);
        due.is("fallback(2, 0)", x.fallback(2, 0), 0xfe00);
        int[] outside = {0, -1, last + 1, Integer.MIN_VALUE, Integer.MAX_VALUE};
        for (int n : outside) {
            due.is("fallback(" + n + ", 1)", x.fallback(n, 1), -2);
        }
    }

    private static void tablesAtTheEnd(int version) {
        ZObjects x = new ZObjects(version);
        Story.make(x, 0, 0);
        Story.setTable(x, version, 1, 4093);
        x.fallback(5, 1234);
        x.poke(4094, Story.isWide(version) ? 64 + 5 : 32 + 5);
        x.poke(4095, 0xab);
        due.is("address(1, 5)", x.address(1, 5), 4095);
        due.is("property(1, 5), half beyond", x.property(1, 5), 0xab00);
        due.is("put(1, 5, 0x1234), half beyond", x.put(1, 5, 0x1234), 1);
        due.is("property(1, 5), half lost", x.property(1, 5), 0x1200);
        due.is("next(1, 5)", x.next(1, 5), 0);
        Story.setTable(x, version, 1, 4094);
        x.poke(4094, 0);
        x.poke(4095, 5);
        due.is("address(1, 5), all beyond", x.address(1, 5), 4096);
        due.is("property(1, 5), all beyond", x.property(1, 5), 0);
        due.is("put(1, 5, 7), all beyond", x.put(1, 5, 7), 1);
        due.is("property(1, 5), all lost", x.property(1, 5), 0);
        due.is("length(4096)", x.length(4096), 1);
        if (Story.isWide(version)) {
            x.poke(4095, 128 + 5);
            due.is("address(1, 5), its size byte beyond", x.address(1, 5), 4097);
            due.is("property(1, 5), of SIZE 64", x.property(1, 5), -3);
            due.is("length(4096)", x.length(4096), 5);
        }
        x.poke(4094, 1);
        due.is("next(1, 0), properties beyond", x.next(1, 0), 0);
        due.is("property(1, 5), properties beyond", x.property(1, 5), 1234);
    }

    private static void tablesBeyond(int version) {
        ZObjects x = new ZObjects(version);
        Story.make(x, 0, 3, 1, 0);
        x.fallback(3, 500);
        int[] beyond = {4096, 5000, 32768, 65535};
        for (int table : beyond) {
            Story.setTable(x, version, 1, table);
            due.is("property(1, 3)", x.property(1, 3), 500);
            due.is("next(1, 0)", x.next(1, 0), 0);
            due.is("next(1, 3)", x.next(1, 3), -3);
            due.is("address(1, 3)", x.address(1, 3), 0);
            due.is("put(1, 3, 1)", x.put(1, 3, 1), -3);
            due.is("named(1)", x.named(1), 0);
        }
    }

    private static void lengthHasItsRange(int version) {
        ZObjects x = new ZObjects(version);
        x.poke(0, 255);
        x.poke(4095, 64);
        due.is("length(0)", x.length(0), 0);
        due.is("length(1)", x.length(1), Story.isWide(version) ? 63 : 8);
        due.is("length(4096)", x.length(4096), Story.isWide(version) ? 2 : 3);
        int[] outside = {-1, 4097, Integer.MIN_VALUE, Integer.MAX_VALUE};
        for (int address : outside) {
            due.is("length(" + address + ")", x.length(address), -2);
        }
    }

    private static void lengthsByEveryByte() {
        for (int b = 0; b < 256; b++) {
            ZObjects narrow = new ZObjects(3);
            ZObjects wide = new ZObjects(4);
            narrow.poke(10, b);
            wide.poke(10, b);
            due.is("length by " + b, narrow.length(11), (b >> 5) + 1);
            int size = b < 64 ? 1 : b < 128 ? 2 : (b & 63) == 0 ? 64 : b & 63;
            due.is("wide length by " + b, wide.length(11), size);
        }
    }
}
