/** The edges that promises 14 to 19 name: property, put, next, address, length, fallback. */
public final class PropertiesEdgesTest {
    private static final Edges edges = new Edges("PropertiesEdgesTest");
    private static final Due due = edges.due();
    private static final int[] NONE_OF_ONE = {0, -1, 2, 100, 101, 256 + 1, Integer.MIN_VALUE, Integer.MAX_VALUE};

    public static void main(String[] args) {
        property();
        put();
        next();
        address();
        length();
        fallback();
        edges.end("Promise 14", "Promise 15", "Promise 16", "Promise 17", "Promise 18", "Promise 19");
    }

    private static void property() {
        edges.of("Promise 14", "Property n (1 .. D): of SIZE 1 its byte, of 2 its WORD",
                PropertiesEdgesTest::propertyOfOneAndTwo);
        edges.of("Promise 14", "without it default n", PropertiesEdgesTest::propertyByDefault);
        edges.of("Promise 14", "-1", PropertiesEdgesTest::propertyOfNone);
        edges.of("Promise 14", "-2", PropertiesEdgesTest::propertyOutside);
        edges.of("Promise 14", "-3: another SIZE", PropertiesEdgesTest::propertyOfAnotherSize);
    }

    private static void put() {
        edges.of("Promise 15", "Property n becomes the lowest 8 bits (SIZE 1) or 16 bits (2) of v: 1",
                PropertiesEdgesTest::putLowestBits);
        edges.of("Promise 15", "-1", PropertiesEdgesTest::putOfNone);
        edges.of("Promise 15", "-2", PropertiesEdgesTest::putOutside);
        edges.of("Promise 15", "-3: it is not there, another SIZE", PropertiesEdgesTest::putRefused);
    }

    private static void next() {
        edges.of("Promise 16", "The number of the property behind n", PropertiesEdgesTest::nextBehind);
        edges.of("Promise 16", "0 .. D; 0: of the first one", PropertiesEdgesTest::nextOfTheFirst);
        edges.of("Promise 16", "0: there is none", PropertiesEdgesTest::nextIsNone);
        edges.of("Promise 16", "-1", PropertiesEdgesTest::nextOfNone);
        edges.of("Promise 16", "-2", PropertiesEdgesTest::nextOutside);
        edges.of("Promise 16", "-3: n is not there", PropertiesEdgesTest::nextIsNotThere);
    }

    private static void address() {
        edges.of("Promise 17", "The address of the first byte of property n", PropertiesEdgesTest::addressOfFirstByte);
        edges.of("Promise 17", "0: it is not there", PropertiesEdgesTest::addressIsNotThere);
        edges.of("Promise 17", "-1", PropertiesEdgesTest::addressOfNone);
        edges.of("Promise 17", "-2", PropertiesEdgesTest::addressOutside);
    }

    private static void length() {
        edges.narrow("Promise 18", "The SIZE of the property whose bytes begin at an address, by the byte before: "
                + "in versions 1 to 3 as told", PropertiesEdgesTest::narrowLength);
        edges.wide("Promise 18", "in 4 to 8 that byte % 64, or 64 if that is 0, when it is 128 or more, "
                + "else 2 when it is 64 or more, else 1", PropertiesEdgesTest::wideLength);
        edges.of("Promise 18", "Of 0: 0", PropertiesEdgesTest::lengthOfNought);
        edges.of("Promise 18", "-2: not 0 .. 4096", PropertiesEdgesTest::lengthOutside);
    }

    private static void fallback() {
        edges.of("Promise 19", "Default n becomes the lowest 16 bits of v", PropertiesEdgesTest::fallbackLowestBits);
        edges.of("Promise 19", "what it was", PropertiesEdgesTest::fallbackAnswers);
        edges.of("Promise 19", "-2", PropertiesEdgesTest::fallbackOutside);
    }

    private static int[] outside(int version) {
        int last = Story.defaults(version);
        return new int[] {-1, -last, last + 1, 64, 65, 256 + 1, Integer.MIN_VALUE, Integer.MAX_VALUE};
    }

    /** One object with property 9 of a SIZE, bytes 0x80, 0x81, .., and behind it property 1 of byte 0x5a. */
    private static ZObjects ofSize(int version, int size) {
        int[] head = {size * 32 - 32 + 9};
        if (Story.isWide(version)) {
            head = new int[] {128 + 9, size % 64};
        }
        int[] table = new int[1 + head.length + size + 3];
        System.arraycopy(head, 0, table, 1, head.length);
        for (int i = 0; i < size; i++) {
            table[1 + head.length + i] = 0x80 + i;
        }
        table[1 + head.length + size] = 1;
        table[1 + head.length + size + 1] = 0x5a;
        return Story.one(version, table);
    }

    private static void propertyOfOneAndTwo(int version) {
        int last = Story.defaults(version);
        int two = Story.two(version);
        ZObjects x = Story.one(version, 0, last, 255, two + last - 1, 0xff, 0xff, two + 2, 0, 1, 1, 0, 0);
        due.is("property(1, D)", x.property(1, last), 255);
        due.is("property(1, D - 1)", x.property(1, last - 1), 65535);
        due.is("property(1, 2)", x.property(1, 2), 1);
        due.is("property(1, 1)", x.property(1, 1), 0);
        due.is("property of SIZE 1", ofSize(version, 1).property(1, 9), 0x80);
        due.is("property of SIZE 2", ofSize(version, 2).property(1, 9), 0x8081);
        due.is("property behind SIZE 1", ofSize(version, 1).property(1, 1), 0x5a);
        due.is("property behind SIZE 2", ofSize(version, 2).property(1, 1), 0x5a);
    }

    private static void propertyByDefault(int version) {
        int last = Story.defaults(version);
        ZObjects x = Story.one(version, 0, 2, 7, 0);
        x.fallback(1, 1111);
        x.fallback(2, 2222);
        x.fallback(3, 65535);
        x.fallback(last, 4444);
        due.is("property(1, 1)", x.property(1, 1), 1111);
        due.is("property(1, 2), which it has", x.property(1, 2), 7);
        due.is("property(1, 3)", x.property(1, 3), 65535);
        due.is("property(1, D)", x.property(1, last), 4444);
        due.is("property(1, D - 1), never told", x.property(1, last - 1), 0);
        x.poke(1793, 0);
        due.is("property(1, 2), which it has no more", x.property(1, 2), 2222);
        // Its own 0 is not the default.
        Story.make(x, 0, 3, 0, 0);
        due.is("property(2, 3), of byte 0", x.property(2, 3), 0);
    }

    private static void propertyOfNone(int version) {
        due.is("property(1, 1) without objects", new ZObjects(version).property(1, 1), -1);
        ZObjects x = Story.one(version, 0, 1, 7, 0);
        for (int object : NONE_OF_ONE) {
            due.is("property(" + object + ", 1)", x.property(object, 1), -1);
            due.is("property(" + object + ", 0)", x.property(object, 0), -1);
        }
    }

    private static void propertyOutside(int version) {
        ZObjects x = Story.one(version, 0, Story.two(version), 1, 1, 1, 7, 0);
        due.is("property(1, 0), though there is one", x.property(1, 0), -2);
        for (int n : outside(version)) {
            due.is("property(1, " + n + ")", x.property(1, n), -2);
        }
    }

    private static void propertyOfAnotherSize(int version) {
        int most = Story.isWide(version) ? 64 : 8;
        for (int size = 3; size <= most; size++) {
            ZObjects x = ofSize(version, size);
            x.fallback(9, 77);
            due.is("property of SIZE " + size, x.property(1, 9), -3);
            due.is("property behind SIZE " + size, x.property(1, 1), 0x5a);
        }
    }

    private static void putLowestBits(int version) {
        int two = Story.two(version);
        int last = Story.defaults(version);
        ZObjects x = Story.one(version, 0, last, 11, two + 1, 22, 33, 0, 44);
        int[] values = {0, 1, 255, 256, 0x1234, 65535, 65536, 0x12345678, -1, -2, Integer.MIN_VALUE, Integer.MAX_VALUE};
        for (int v : values) {
            due.is("put(1, D, " + v + ")", x.put(1, last, v), 1);
            due.is("property(1, D)", x.property(1, last), v & 255);
            due.is("its byte", x.peek(1794), v & 255);
            due.is("put(1, 1, " + v + ")", x.put(1, 1, v), 1);
            due.is("property(1, 1)", x.property(1, 1), v & 65535);
            due.is("its higher byte", x.peek(1796), v >> 8 & 255);
            due.is("its lower byte", x.peek(1797), v & 255);
        }
        due.is("the byte of its number", x.peek(1793), last);
        due.is("the byte of the other's number", x.peek(1795), two + 1);
        due.is("the byte 0 behind them", x.peek(1798), 0);
        due.is("the byte behind that", x.peek(1799), 44);
        ZObjects one = ofSize(version, 1);
        due.is("put of SIZE 1", one.put(1, 9, 0x1234), 1);
        due.is("property of SIZE 1", one.property(1, 9), 0x34);
        ZObjects both = ofSize(version, 2);
        due.is("put of SIZE 2", both.put(1, 9, 0x51234), 1);
        due.is("property of SIZE 2", both.property(1, 9), 0x1234);
        due.is("the one behind it", both.property(1, 1), 0x5a);
    }

    private static void putOfNone(int version) {
        due.is("put(1, 1, 1) without objects", new ZObjects(version).put(1, 1, 1), -1);
        ZObjects x = Story.one(version, 0, 1, 7, 0);
        for (int object : NONE_OF_ONE) {
            due.is("put(" + object + ", 1, 9)", x.put(object, 1, 9), -1);
            due.is("put(" + object + ", 0, 9)", x.put(object, 0, 9), -1);
        }
        due.is("property(1, 1)", x.property(1, 1), 7);
    }

    private static void putOutside(int version) {
        ZObjects x = Story.one(version, 0, Story.two(version), 1, 2, 1, 7, 0);
        due.is("put(1, 0, 9), though there is one", x.put(1, 0, 9), -2);
        for (int n : outside(version)) {
            due.is("put(1, " + n + ", 9)", x.put(1, n, 9), -2);
        }
        due.is("peek(1794)", x.peek(1794), 1);
        due.is("peek(1795)", x.peek(1795), 2);
        due.is("property(1, 1)", x.property(1, 1), 7);
    }

    private static void putRefused(int version) {
        ZObjects x = Story.one(version, 0, 2, 7, 0);
        x.fallback(1, 1111);
        due.is("put(1, 1, 9), a default alone", x.put(1, 1, 9), -3);
        due.is("property(1, 1)", x.property(1, 1), 1111);
        due.is("put(1, D, 9)", x.put(1, Story.defaults(version), 9), -3);
        int most = Story.isWide(version) ? 64 : 8;
        for (int size = 3; size <= most; size++) {
            ZObjects y = ofSize(version, size);
            due.is("put of SIZE " + size, y.put(1, 9, 0), -3);
            int at = y.address(1, 9);
            due.is("its first byte", y.peek(at), 0x80);
            due.is("its last byte", y.peek(at + size - 1), 0x80 + size - 1);
        }
    }

    private static void nextBehind(int version) {
        int last = Story.defaults(version);
        int two = Story.two(version);
        ZObjects x = Story.one(version, 0, last, 1, two + 5, 1, 1, 1, 1, 0);
        due.is("next(1, D)", x.next(1, last), 5);
        due.is("next(1, 5)", x.next(1, 5), 1);
        // As they stand, whatever their numbers are.
        ZObjects y = Story.one(version, 0, 3, 1, 9, 1, 9, 1, 2, 1, 0);
        due.is("next(1, 3), a higher one", y.next(1, 3), 9);
        due.is("next(1, 9), of the first 9", y.next(1, 9), 9);
        due.is("next(1, 2), the last", y.next(1, 2), 0);
        int most = Story.isWide(version) ? 64 : 8;
        for (int size = 1; size <= most; size++) {
            due.is("next(1, 9) behind SIZE " + size, ofSize(version, size).next(1, 9), 1);
        }
        ZObjects z = Story.one(version, 0, 3, 1, two, 1, 1, 2, 1, 0);
        due.is("next(1, 3), of number 0", z.next(1, 3), 0);
        due.is("next(1, 2), behind it", z.next(1, 2), 0);
    }

    private static void nextOfTheFirst(int version) {
        int last = Story.defaults(version);
        due.is("next(1, 0), of D", Story.one(version, 0, last, 1, 0).next(1, 0), last);
        due.is("next(1, 0), of 1", Story.one(version, 0, 1, 1, 5, 1, 0).next(1, 0), 1);
        due.is("next(1, 0), behind a name", Story.one(version, 1, 9, 9, 5, 1, 0).next(1, 0), 5);
        // 0 asks for the first one, even where a property of number 0 is first.
        ZObjects x = Story.one(version, 0, Story.two(version), 1, 1, 5, 1, 0);
        due.is("next(1, 0), of number 0", x.next(1, 0), 0);
        due.is("next(1, 5)", x.next(1, 5), 0);
    }

    private static void nextIsNone(int version) {
        due.is("next(1, 0) without properties", Story.one(version, 0, 0).next(1, 0), 0);
        due.is("next(1, 0) of an empty table", Story.bare(version, 1).next(1, 0), 0);
        ZObjects x = Story.one(version, 0, 5, 1, 0, 3, 1, 0);
        due.is("next(1, 5), the last", x.next(1, 5), 0);
        ZObjects y = Story.oneAt(version, 4093, 0, 5, 1);
        due.is("next(1, 5), up to the end of MEMORY", y.next(1, 5), 0);
    }

    private static void nextOfNone(int version) {
        due.is("next(1, 0) without objects", new ZObjects(version).next(1, 0), -1);
        ZObjects x = Story.one(version, 0, 1, 7, 0);
        for (int object : NONE_OF_ONE) {
            due.is("next(" + object + ", 0)", x.next(object, 0), -1);
            due.is("next(" + object + ", -1)", x.next(object, -1), -1);
        }
    }

    private static void nextOutside(int version) {
        ZObjects x = Story.one(version, 0, Story.defaults(version), 7, 1, 7, 0);
        for (int n : outside(version)) {
            due.is("next(1, " + n + ")", x.next(1, n), -2);
        }
        due.is("next(1, 0)", x.next(1, 0), Story.defaults(version));
        due.is("next(1, D)", x.next(1, Story.defaults(version)), 1);
    }

    private static void nextIsNotThere(int version) {
        int last = Story.defaults(version);
        ZObjects x = Story.one(version, 0, 5, 1, 0, 3, 1, 0);
        int[] missing = {1, 3, 4, 6, last - 1, last};
        for (int n : missing) {
            due.is("next(1, " + n + ")", x.next(1, n), -3);
        }
        x.fallback(4, 9);
        due.is("next(1, 4), a default alone", x.next(1, 4), -3);
        due.is("next(1, 1) without properties", Story.one(version, 0, 0).next(1, 1), -3);
    }

    private static void addressOfFirstByte(int version) {
        int last = Story.defaults(version);
        ZObjects x = Story.one(version, 1, 9, 9, last, 1, Story.two(version) + 1, 1, 1, 0);
        due.is("address(1, D)", x.address(1, last), 1796);
        due.is("address(1, 1)", x.address(1, 1), 1798);
        int most = Story.isWide(version) ? 64 : 8;
        int head = Story.isWide(version) ? 2 : 1;
        for (int size = 1; size <= most; size++) {
            ZObjects y = ofSize(version, size);
            due.is("address of SIZE " + size, y.address(1, 9), 1793 + head);
            due.is("address behind SIZE " + size, y.address(1, 1), 1793 + head + size + 1);
        }
        ZObjects end = Story.oneAt(version, 4093, 0, 5, 1);
        due.is("address in the last byte", end.address(1, 5), 4095);
        ZObjects beyond = Story.oneAt(version, 4094, 0, 5);
        due.is("address behind the last byte", beyond.address(1, 5), 4096);
        ZObjects low = Story.oneAt(version, 0, 0, 5, 1, 0);
        due.is("address of a table at 0", low.address(1, 5), 2);
    }

    private static void addressIsNotThere(int version) {
        ZObjects x = Story.one(version, 0, 5, 1, 0, 3, 1, 0);
        x.fallback(4, 9);
        int[] missing = {1, 3, 4, 6, Story.defaults(version)};
        for (int n : missing) {
            due.is("address(1, " + n + ")", x.address(1, n), 0);
        }
        due.is("address(1, 1) without properties", Story.one(version, 0, 0).address(1, 1), 0);
    }

    private static void addressOfNone(int version) {
        due.is("address(1, 1) without objects", new ZObjects(version).address(1, 1), -1);
        ZObjects x = Story.one(version, 0, 1, 7, 0);
        for (int object : NONE_OF_ONE) {
            due.is("address(" + object + ", 1)", x.address(object, 1), -1);
            due.is("address(" + object + ", 0)", x.address(object, 0), -1);
        }
    }

    private static void addressOutside(int version) {
        ZObjects x = Story.one(version, 0, Story.two(version), 1, 1, 1, 7, 0);
        due.is("address(1, 0), though there is one", x.address(1, 0), -2);
        for (int n : outside(version)) {
            due.is("address(1, " + n + ")", x.address(1, n), -2);
        }
    }

    private static void narrowLength(int version) {
        for (int b = 0; b < 256; b++) {
            ZObjects x = new ZObjects(version);
            x.poke(0, b);
            x.poke(4095, b);
            due.is("length(1) by " + b, x.length(1), b / 32 + 1);
            due.is("length(4096) by " + b, x.length(4096), b / 32 + 1);
            due.is("length(2)", x.length(2), 1);
        }
        for (int size = 1; size <= 8; size++) {
            ZObjects x = ofSize(version, size);
            due.is("length of SIZE " + size, x.length(x.address(1, 9)), size);
        }
    }

    private static void wideLength(int version) {
        int[][] bytes = {{0, 1}, {1, 1}, {63, 1}, {64, 2}, {65, 2}, {127, 2}, {128, 64}, {129, 1}, {130, 2}, {191, 63},
            {192, 64}, {193, 1}, {255, 63}};
        for (int[] b : bytes) {
            ZObjects x = new ZObjects(version);
            x.poke(0, b[0]);
            x.poke(4095, b[0]);
            due.is("length(1) by " + b[0], x.length(1), b[1]);
            due.is("length(4096) by " + b[0], x.length(4096), b[1]);
            due.is("length(2)", x.length(2), 1);
        }
        for (int b = 128; b < 256; b++) {
            ZObjects x = new ZObjects(version);
            x.poke(99, b);
            due.is("length(100) by " + b, x.length(100), b % 64 == 0 ? 64 : b % 64);
        }
        // By the byte before alone: a size byte below 128 is not known for one.
        ZObjects x = ofSize(version, 5);
        due.is("length by size byte 5", x.length(x.address(1, 9)), 1);
        x.poke(1794, 128 + 5);
        due.is("length by size byte 133", x.length(x.address(1, 9)), 5);
    }

    private static void lengthOfNought(int version) {
        ZObjects x = new ZObjects(version);
        due.is("length(0)", x.length(0), 0);
        x.poke(0, 255);
        x.poke(4095, 255);
        due.is("length(0), whatever is written", x.length(0), 0);
    }

    private static void lengthOutside(int version) {
        ZObjects x = new ZObjects(version);
        int[] outside = {-1, -4096, 4097, 4098, 65536, Integer.MIN_VALUE, Integer.MAX_VALUE};
        for (int address : outside) {
            due.is("length(" + address + ")", x.length(address), -2);
        }
        due.is("length(1)", x.length(1), 1);
        due.is("length(4096)", x.length(4096), 1);
    }

    private static void fallbackLowestBits(int version) {
        ZObjects x = Story.one(version, 0, 0);
        int last = Story.defaults(version);
        int[] values = {0, 1, 255, 256, 65535, 65536, 65537, 0x12345678, -1, Integer.MIN_VALUE, Integer.MAX_VALUE};
        int[] numbers = {1, 2, last};
        for (int n : numbers) {
            for (int v : values) {
                x.fallback(n, v);
                due.is("property(1, " + n + ") behind fallback(" + n + ", " + v + ")", x.property(1, n), v & 65535);
            }
        }
        due.is("property(1, 3)", x.property(1, 3), 0);
        due.is("property(1, D - 1)", x.property(1, last - 1), 0);
        due.is("the byte before default 1", x.peek(255), 0);
        due.is("the byte behind default D", x.peek(256 + 2 * last), 0);
    }

    private static void fallbackAnswers(int version) {
        ZObjects x = new ZObjects(version);
        int last = Story.defaults(version);
        int[] numbers = {1, last};
        for (int n : numbers) {
            due.is("fallback(" + n + ", -1)", x.fallback(n, -1), 0);
            due.is("fallback(" + n + ", 0x18000)", x.fallback(n, 0x18000), 65535);
            due.is("fallback(" + n + ", 255)", x.fallback(n, 255), 32768);
            due.is("fallback(" + n + ", 0)", x.fallback(n, 0), 255);
            due.is("fallback(" + n + ", 0)", x.fallback(n, 0), 0);
        }
    }

    private static void fallbackOutside(int version) {
        ZObjects x = new ZObjects(version);
        int last = Story.defaults(version);
        due.is("fallback(0, -1)", x.fallback(0, -1), -2);
        for (int n : outside(version)) {
            due.is("fallback(" + n + ", -1)", x.fallback(n, -1), -2);
        }
        int[] places = {254, 255, 256 + 2 * last, 257 + 2 * last};
        for (int a : places) {
            due.is("peek(" + a + ")", x.peek(a), 0);
        }
    }
}
