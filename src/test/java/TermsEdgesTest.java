/** The edges that the words under "Terms" name, but for those of names, and the answers below 0. */
public final class TermsEdgesTest {
    private static final Edges edges = new Edges("TermsEdgesTest");
    private static final Due due = edges.due();
    private static final int[] NO_OBJECTS_OF_TWO = {0, -1, 3, 100, 101, 257, 65537, Integer.MIN_VALUE,
        Integer.MAX_VALUE};

    public static void main(String[] args) {
        memory();
        entries();
        tables();
        alongLinks();
        answers();
        edges.end("Terms", "Answers");
    }

    private static void memory() {
        edges.of("Terms", "MEMORY has bytes 0 .. 4095", TermsEdgesTest::firstAndLastByte);
        edges.of("Terms", "all 0 at first", TermsEdgesTest::allBytesAreNought);
        edges.of("Terms", "a byte beyond is 0", TermsEdgesTest::bytesBeyond);
        edges.of("Terms", "and what is written there is lost", TermsEdgesTest::writtenBeyond);
        edges.of("Terms", "A WORD is two bytes, the higher one first", TermsEdgesTest::wordsInMemory);
    }

    private static void entries() {
        edges.narrow("Terms", "In versions 1 to 3 there are D = 31 defaults", v -> defaults(v, 31));
        edges.narrow("Terms", "32 attributes", v -> attributes(v, 32));
        edges.narrow("Terms", "and an ENTRY has 9 bytes: 4 of attributes, the PARENT, the SIBLING, the CHILD (one each), "
                + "the WORD of its TABLE's address", TermsEdgesTest::narrowEntry);
        edges.wide("Terms", "in 4 to 8 D = 63", v -> defaults(v, 63));
        edges.wide("Terms", "48 attributes", v -> attributes(v, 48));
        edges.wide("Terms", "14 bytes: 6, a WORD each, the WORD", TermsEdgesTest::wideEntry);
        edges.of("Terms", "WORDS of defaults 1 .. D stand from 256 on", TermsEdgesTest::placeOfDefaults);
        edges.of("Terms", "the ENTRIES of objects 1, 2, .. behind them", TermsEdgesTest::placeOfEntries);
        edges.of("Terms", "LINKS are PARENT, SIBLING, CHILD", TermsEdgesTest::orderOfLinks);
        edges.of("Terms", "Attribute n is bit 7 less n % 8 of byte n / 8 of the ENTRY", TermsEdgesTest::bitsOfAttributes);
    }

    private static void tables() {
        edges.of("Terms", "A TABLE: a byte L, L WORDS of the NAME, then PROPERTIES", TermsEdgesTest::partsOfATable);
        edges.of("Terms", "up to a byte 0", TermsEdgesTest::endOfATable);
        edges.narrow("Terms", "A property: in versions 1 to 3 one byte, its number that byte % 32",
                TermsEdgesTest::narrowNumbers);
        edges.narrow("Terms", "its SIZE that byte / 32 and 1, then so many bytes", TermsEdgesTest::narrowSizes);
        edges.wide("Terms", "in 4 to 8 a byte b, its number b % 64", TermsEdgesTest::wideNumbers);
        edges.wide("Terms", "when b is below 128 its SIZE is 2 if b / 64 is 1, else 1", TermsEdgesTest::wideSizes);
        edges.wide("Terms", "otherwise one more byte, its SIZE that byte % 64", TermsEdgesTest::wideSizeByte);
        edges.wide("Terms", "or 64 if that is 0; then so many bytes", TermsEdgesTest::wideSizeByteOfNought);
        edges.of("Terms", "THAT OF A NUMBER is the first one from the beginning that has it",
                TermsEdgesTest::firstOfANumber);
        edges.of("Terms", "Bytes are as they are in MEMORY when it is asked, whoever wrote them",
                TermsEdgesTest::bytesAsTheyAre);
        edges.of("Terms", "beyond MEMORY the row ends", TermsEdgesTest::rowEndsWithMemory);
    }

    private static void alongLinks() {
        edges.of("Terms", "TO GO ALONG LINKS from an object: to what it names, and so on", TermsEdgesTest::goesOn);
        edges.of("Terms", "until that is no object (0, or no number of one)", TermsEdgesTest::stopsAtNoObject);
        edges.wide("Terms", "until that is no object (0, or no number of one)", TermsEdgesTest::stopsAtHighNumbers);
        edges.of("Terms", "100 times at most", TermsEdgesTest::goesAHundredTimes);
    }

    private static void answers() {
        edges.of("Answers", "-1 an unknown number (no object; 0 is none)", TermsEdgesTest::unknownNumbers);
        edges.of("Answers", "-2 outside its range", TermsEdgesTest::outsideRanges);
        edges.of("Answers", "-3 not in this state", TermsEdgesTest::notInThisState);
        edges.of("Answers", "-4 no room", TermsEdgesTest::noRoom);
        edges.of("Answers", "the first that fits", TermsEdgesTest::firstThatFits);
        edges.of("Answers", "and nothing is changed", TermsEdgesTest::nothingIsChanged);
        edges.of("Answers", "Objects have numbers 1, 2, .., 100 at most", TermsEdgesTest::numbersOfObjects);
    }

    private static void firstAndLastByte(int version) {
        ZObjects x = new ZObjects(version);
        due.is("poke(0, 1)", x.poke(0, 1), 0);
        due.is("poke(4095, 2)", x.poke(4095, 2), 0);
        due.is("peek(0)", x.peek(0), 1);
        due.is("peek(4095)", x.peek(4095), 2);
        due.is("peek(-1)", x.peek(-1), -2);
        due.is("peek(4096)", x.peek(4096), -2);
    }

    private static void allBytesAreNought(int version) {
        for (int from = 0; from < 4096; from += 512) {
            ZObjects x = new ZObjects(version);
            for (int a = from; a < from + 512; a++) {
                due.is("peek(" + a + ")", x.peek(a), 0);
            }
        }
    }

    private static void bytesBeyond(int version) {
        ZObjects x = Story.oneAt(version, 4094, 0, 5);
        // What a wrap-around to the beginning would find.
        Story.pokeBytes(x, 0, 0x77, 0x66, 0x55);
        due.is("property(1, 5), its byte beyond", x.property(1, 5), 0);
        Story.setTable(x, version, 1, 4093);
        Story.pokeBytes(x, 4093, 0, Story.two(version) + 5, 0xab);
        due.is("property(1, 5), its lower byte beyond", x.property(1, 5), 0xab00);
        Story.pokeBytes(x, 4093, 0, 0, Story.two(version) + 5);
        Story.setTable(x, version, 1, 4094);
        due.is("property(1, 5), its WORD beyond", x.property(1, 5), 0);
        int[] beyond = {4096, 4097, 8192, 32768, 61440, 65535};
        for (int table : beyond) {
            Story.setTable(x, version, 1, table);
            due.is("named(1), its L beyond at " + table, x.named(1), 0);
            due.is("next(1, 0), its L beyond at " + table, x.next(1, 0), 0);
        }
        ZObjects y = Story.oneAt(version, 4092, 3, 0x18, 0xc6, 0x1c);
        Story.pokeBytes(y, 0, 0x77, 0x66, 0x55);
        due.is("a name that goes beyond", Story.name(y, 1), "aaab     ");
    }

    private static void writtenBeyond(int version) {
        ZObjects x = Story.oneAt(version, 4093, 0, Story.two(version) + 5, 0xab);
        due.is("put(1, 5, 0x1234), half beyond", x.put(1, 5, 0x1234), 1);
        due.is("property(1, 5), half beyond", x.property(1, 5), 0x1200);
        due.is("peek(4095)", x.peek(4095), 0x12);
        Story.setTable(x, version, 1, 4094);
        Story.pokeBytes(x, 4094, 0, 5);
        due.is("put(1, 5, 77), beyond", x.put(1, 5, 77), 1);
        due.is("property(1, 5), beyond", x.property(1, 5), 0);
        x.poke(4095, Story.two(version) + 5);
        due.is("put(1, 5, 0x3456), beyond", x.put(1, 5, 0x3456), 1);
        due.is("property(1, 5), beyond", x.property(1, 5), 0);
        due.is("peek(0)", x.peek(0), 0);
        due.is("peek(1)", x.peek(1), 0);
        due.is("peek(4095)", x.peek(4095), Story.two(version) + 5);
    }

    private static void wordsInMemory(int version) {
        ZObjects x = Story.one(version, 0, Story.two(version) + 9, 0x12, 0x34, 0);
        due.is("property(1, 9)", x.property(1, 9), 0x1234);
        x.put(1, 9, 0x5678);
        due.is("the higher byte of a property", x.peek(1794), 0x56);
        due.is("the lower byte of a property", x.peek(1795), 0x78);
        x.fallback(3, 0x9abc);
        due.is("the higher byte of default 3", x.peek(260), 0x9a);
        due.is("the lower byte of default 3", x.peek(261), 0xbc);
        due.is("the higher byte of the TABLE's address", x.peek(Story.tableAt(version, 1)), 7);
        due.is("the lower byte of the TABLE's address", x.peek(Story.tableAt(version, 1) + 1), 0);
    }

    private static void defaults(int version, int d) {
        ZObjects x = Story.one(version, 0, 0);
        due.is("fallback(D, 8)", x.fallback(d, 8), 0);
        due.is("property(1, D)", x.property(1, d), 8);
        due.is("fallback(D + 1, 8)", x.fallback(d + 1, 8), -2);
        due.is("property(1, D + 1)", x.property(1, d + 1), -2);
    }

    private static void attributes(int version, int many) {
        ZObjects x = Story.one(version, 0, 0);
        due.is("attribute(1, last, 1)", x.attribute(1, many - 1, 1), 1);
        due.is("attribute(1, last, 0)", x.attribute(1, many - 1, 0), 1);
        due.is("attribute(1, last + 1, 0)", x.attribute(1, many, 0), -2);
        due.is("attribute(1, last + 1, 1)", x.attribute(1, many, 1), -2);
        due.is("parent(1), which stands behind them", x.parent(1), 0);
    }

    private static void narrowEntry(int version) {
        ZObjects x = Story.plain(version, 2);
        // The entry of 2, byte by byte.
        Story.pokeBytes(x, 318 + 9, 0, 0, 0, 1, 201, 202, 203, 0x0f, 0xfe, 255);
        due.is("attribute(2, 31, 0)", x.attribute(2, 31, 0), 1);
        due.is("attribute(2, 30, 0)", x.attribute(2, 30, 0), 0);
        due.is("links of 2", Story.links(x, 2), "201 202 203");
        x.poke(0x0ffe, 0);
        x.poke(0x0fff, 17);
        due.is("next(2, 0) in the table at 4094", x.next(2, 0), 17);
        due.is("links of 1", Story.links(x, 1), "0 0 0");
        Story.makePlain(x, 1);
        due.is("the first byte of the next entry, made 0", x.peek(318 + 18), 0);
        due.is("the last byte of this entry", x.peek(318 + 17), 0xfe);
    }

    private static void wideEntry(int version) {
        ZObjects x = Story.plain(version, 2);
        Story.pokeBytes(x, 382 + 14, 0, 0, 0, 0, 0, 1, 1, 201, 2, 202, 3, 203, 0x0f, 0xfe, 255);
        due.is("attribute(2, 47, 0)", x.attribute(2, 47, 0), 1);
        due.is("attribute(2, 46, 0)", x.attribute(2, 46, 0), 0);
        due.is("links of 2", Story.links(x, 2), "457 714 971");
        x.poke(0x0ffe, 0);
        x.poke(0x0fff, 17);
        due.is("next(2, 0) in the table at 4094", x.next(2, 0), 17);
        due.is("links of 1", Story.links(x, 1), "0 0 0");
        Story.makePlain(x, 1);
        due.is("the first byte of the next entry, made 0", x.peek(382 + 28), 0);
        due.is("the last byte of this entry", x.peek(382 + 27), 0xfe);
    }

    private static void placeOfDefaults(int version) {
        ZObjects x = Story.one(version, 0, 0);
        int last = Story.defaults(version);
        x.fallback(1, 0xffff);
        due.is("byte 255, before default 1", x.peek(255), 0);
        due.is("byte 256", x.peek(256), 255);
        due.is("byte 257", x.peek(257), 255);
        due.is("byte 258", x.peek(258), 0);
        Story.pokeBytes(x, 254 + 2 * last, 0x12, 0x34);
        due.is("property(1, D)", x.property(1, last), 0x1234);
        due.is("property(1, D - 1)", x.property(1, last - 1), 0);
    }

    private static void placeOfEntries(int version) {
        ZObjects x = Story.bare(version, 100);
        int first = Story.isWide(version) ? 382 : 318;
        int step = Story.isWide(version) ? 14 : 9;
        x.fallback(Story.defaults(version), 0xffff);
        due.is("the last byte of the defaults", x.peek(first - 1), 255);
        due.is("attribute(1, 0, 0)", x.attribute(1, 0, 0), 0);
        int[] objects = {1, 2, 99, 100};
        for (int object : objects) {
            x.attribute(object, 0, 1);
            due.is("the first byte of entry " + object, x.peek(first + step * (object - 1)), 128);
        }
        due.is("the last byte of entry 100, of 1792", x.peek(first + step * 100 - 1), 0);
        due.is("the one before it", x.peek(first + step * 100 - 2), 7);
    }

    private static void orderOfLinks(int version) {
        ZObjects x = Story.plain(version, 4);
        x.move(2, 1);
        x.move(3, 1);
        x.move(4, 3);
        int at = Story.entry(version, 3) + (Story.isWide(version) ? 7 : 4);
        int step = Story.isWide(version) ? 2 : 1;
        due.is("the parent's byte", x.peek(at), 1);
        due.is("the sibling's byte", x.peek(at + step), 2);
        due.is("the child's byte", x.peek(at + 2 * step), 4);
    }

    private static void bitsOfAttributes(int version) {
        int last = Story.isWide(version) ? 47 : 31;
        int[][] places = {{0, 0, 128}, {7, 0, 1}, {8, 1, 128}, {15, 1, 1}, {last - 7, last / 8, 128},
            {last, last / 8, 1}};
        for (int[] place : places) {
            ZObjects x = Story.plain(version, 2);
            int at = Story.entry(version, 2) + place[1];
            x.attribute(2, place[0], 1);
            due.is("the byte of attribute " + place[0], x.peek(at), place[2]);
            due.is("the byte before it", x.peek(at - 1), 0);
            due.is("the byte behind it", x.peek(at + 1), 0);
            x.poke(at, 255);
            x.attribute(2, place[0], 2);
            due.is("the byte without attribute " + place[0], x.peek(at), 255 - place[2]);
            x.poke(at, place[2]);
            due.is("attribute(2, " + place[0] + ", 0)", x.attribute(2, place[0], 0), 1);
            x.poke(at, 255 - place[2]);
            due.is("attribute(2, " + place[0] + ", 0)", x.attribute(2, place[0], 0), 0);
        }
    }

    private static void partsOfATable(int version) {
        ZObjects none = Story.one(version, 0, 9, 1, 0);
        due.is("named(1) with L = 0", none.named(1), 0);
        due.is("address(1, 9) with L = 0", none.address(1, 9), 1794);
        ZObjects single = Story.one(version, 1, 0x18, 0xe8, 9, 1, 0);
        due.is("the name with L = 1", Story.name(single, 1), "abc");
        due.is("address(1, 9) with L = 1", single.address(1, 9), 1796);
        ZObjects most = Story.oneAt(version, 2000, 255);
        Story.pokeBytes(most, 2000 + 511, 9, 66, 0);
        due.is("address(1, 9) with L = 255", most.address(1, 9), 2512);
        due.is("property(1, 9) with L = 255", most.property(1, 9), 66);
        due.is("named(1) with L = 255, of 765 signs", most.named(1), 250);
        ZObjects early = Story.one(version, 2, 0x98, 0xe8, 9, 9, 7, 1, 0);
        due.is("a name that ends before L WORDS", Story.name(early, 1), "abc");
        due.is("next(1, 0) behind all L WORDS", early.next(1, 0), 7);
    }

    private static void endOfATable(int version) {
        ZObjects empty = Story.one(version, 0, 0, 9, 1, 0);
        due.is("next(1, 0) with a byte 0 first", empty.next(1, 0), 0);
        due.is("address(1, 9) behind the byte 0", empty.address(1, 9), 0);
        ZObjects x = Story.one(version, 0, 9, 0, 8, 0, 0, 7, 1, 0);
        due.is("next(1, 9), whose byte is 0", x.next(1, 9), 8);
        due.is("next(1, 8), the last", x.next(1, 8), 0);
        due.is("next(1, 7), behind the byte 0", x.next(1, 7), -3);
        due.is("put(1, 7, 1), behind the byte 0", x.put(1, 7, 1), -3);
        // Nor is the byte 0 a property of number 0 itself, with the byte behind it.
        ZObjects first = Story.one(version, 0, 0, 7, 9, 1, 0);
        due.is("address(1, 9), two behind the byte 0", first.address(1, 9), 0);
        ZObjects later = Story.one(version, 0, 9, 1, 0, 7, 8, 1, 0);
        due.is("next(1, 8), two behind the byte 0", later.next(1, 8), -3);
        due.is("next(1, 9), before the byte 0", later.next(1, 9), 0);
        ZObjects open = Story.one(version, 0, 9, 1);
        due.is("next(1, 9), the byte 0 is MEMORY's", open.next(1, 9), 0);
        Story.make(open, 8, 5, 0);
        due.is("next(1, 9), which goes on in the next table", open.next(1, 9), 8);
    }

    private static void narrowNumbers(int version) {
        int[][] bytes = {{1, 1}, {31, 31}, {33, 1}, {63, 31}, {65, 1}, {224 + 1, 1}, {255, 31}, {32, 0}, {224, 0}};
        for (int[] b : bytes) {
            due.is("next(1, 0) by " + b[0], Story.one(version, 0, b[0]).next(1, 0), b[1]);
        }
        // Of number 0, but not the byte 0 that ends the row.
        due.is("next(1, 0) by 32", Story.one(version, 0, 32, 1, 1, 5, 1, 0).address(1, 5), 1797);
    }

    private static void narrowSizes(int version) {
        int[][] bytes = {{1, 1}, {31, 1}, {33, 2}, {63, 2}, {65, 3}, {193, 7}, {225, 8}, {255, 8}, {32, 2}, {224, 8}};
        for (int[] b : bytes) {
            int[] table = new int[2 + b[1] + 2];
            table[1] = b[0];
            table[2 + b[1]] = 9;
            ZObjects x = Story.one(version, table);
            due.is("address(1, 9) behind " + b[0], x.address(1, 9), 1792 + 2 + b[1] + 1);
        }
    }

    private static void wideNumbers(int version) {
        int[][] bytes = {{1, 1}, {63, 63}, {65, 1}, {127, 63}, {129, 1}, {191, 63}, {193, 1}, {255, 63}, {64, 0},
            {128, 0}, {192, 0}};
        for (int[] b : bytes) {
            due.is("next(1, 0) by " + b[0], Story.one(version, 0, b[0]).next(1, 0), b[1]);
        }
        due.is("address(1, 5) behind 64", Story.one(version, 0, 64, 1, 1, 5, 1, 0).address(1, 5), 1797);
        due.is("address(1, 5) behind 128", Story.one(version, 0, 128, 1, 1, 5, 1, 0).address(1, 5), 1797);
        due.is("address(1, 5) behind 192", Story.one(version, 0, 192, 1, 1, 5, 1, 0).address(1, 5), 1797);
    }

    private static void wideSizes(int version) {
        int[][] bytes = {{1, 1}, {31, 1}, {32, 1}, {63, 1}, {64, 2}, {65, 2}, {96, 2}, {127, 2}};
        for (int[] b : bytes) {
            int[] table = new int[2 + b[1] + 2];
            table[1] = b[0];
            table[2 + b[1]] = 9;
            ZObjects x = Story.one(version, table);
            due.is("address(1, 9) behind " + b[0], x.address(1, 9), 1792 + 2 + b[1] + 1);
        }
    }

    private static void wideSizeByte(int version) {
        int[][] bytes = {{1, 1}, {2, 2}, {3, 3}, {63, 63}, {65, 1}, {127, 63}, {129, 1}, {191, 63}, {193, 1}, {255, 63}};
        for (int[] b : bytes) {
            sizeByte(version, b[0], b[1]);
        }
    }

    private static void wideSizeByteOfNought(int version) {
        int[] bytes = {0, 64, 128, 192};
        for (int b : bytes) {
            sizeByte(version, b, 64);
        }
    }

    private static void sizeByte(int version, int b, int size) {
        int[] firsts = {128, 129, 191, 192, 255};
        for (int first : firsts) {
            int[] table = new int[3 + size + 2];
            table[1] = first;
            table[2] = b;
            table[3 + size] = 9;
            ZObjects x = Story.one(version, table);
            due.is("address(1, 9) behind " + first + " " + b, x.address(1, 9), 1792 + 3 + size + 1);
        }
        due.is("address(1, 7) by its size byte", Story.one(version, 0, 128 + 7, b).address(1, 7), 1795);
    }

    private static void firstOfANumber(int version) {
        int two = Story.two(version);
        ZObjects x = Story.one(version, 0, 5, 11, 6, 22, two + 5, 33, 44, 6, 55, 0);
        due.is("property(1, 5)", x.property(1, 5), 11);
        due.is("address(1, 5)", x.address(1, 5), 1794);
        due.is("next(1, 5)", x.next(1, 5), 6);
        due.is("next(1, 6)", x.next(1, 6), 5);
        due.is("put(1, 6, 99)", x.put(1, 6, 99), 1);
        due.is("the first 6", x.peek(1796), 99);
        due.is("the second 6", x.peek(1801), 55);
    }

    private static void bytesAsTheyAre(int version) {
        ZObjects x = Story.one(version, 1, 0x98, 0xe8, 9, 1, 0);
        due.is("the name", Story.name(x, 1), "abc");
        x.poke(1793, 0x94);
        x.poke(1794, 0xa5);
        due.is("named(1) by poke()", x.named(1), 0);
        x.poke(1792, 0);
        due.is("next(1, 0) by poke()", x.next(1, 0), 0x94 % (Story.isWide(version) ? 64 : 32));
        // A table in the defaults, written by fallback(), and one in an entry, written by attribute() and move().
        x.fallback(1, 0x0007);
        x.fallback(2, 0x5500);
        Story.setTable(x, version, 1, 256);
        due.is("property(1, 7) by fallback()", x.property(1, 7), 0x55);
        due.is("put(1, 7, 0x66) into a default", x.put(1, 7, 0x66), 1);
        due.is("fallback(2, 0) by put()", x.fallback(2, 0), 0x6600);
        Story.makePlain(x, 2);
        Story.setTable(x, version, 1, Story.entry(version, 2) + (Story.isWide(version) ? 4 : 2));
        x.attribute(2, Story.isWide(version) ? 47 : 31, 1);
        x.move(2, 3);
        due.is("next(1, 0) by attribute()", x.next(1, 0), 1);
        due.is("property(1, 1) by move()", x.property(1, 1), Story.isWide(version) ? 0 : 3);
    }

    private static void rowEndsWithMemory(int version) {
        ZObjects x = Story.oneAt(version, 4092, 0, 9, 1, 8);
        due.is("next(1, 9), in the last byte", x.next(1, 9), 8);
        due.is("next(1, 8), beyond", x.next(1, 8), 0);
        due.is("next(1, 7)", x.next(1, 7), -3);
        Story.pokeBytes(x, 4093, 9, 1, 0);
        due.is("next(1, 9), the byte 0 is the last of MEMORY", x.next(1, 9), 0);
        // A name that leads beyond, and a wrap-around's first bytes.
        x.poke(4092, 2);
        Story.pokeBytes(x, 0, 7, 7, 7, 7);
        due.is("next(1, 0), which begins beyond", x.next(1, 0), 0);
        due.is("judge(), without properties", x.judge(), 0);
        Story.setTable(x, version, 1, 65535);
        due.is("next(1, 0) of a table beyond", x.next(1, 0), 0);
        due.is("address(1, 7) of a table beyond", x.address(1, 7), 0);
        due.is("judge(), with a table beyond", x.judge(), 0);
    }

    private static void goesOn(int version) {
        ZObjects x = Story.plain(version, 5);
        // 1 names 2 as its CHILD, then 3, 4 by SIBLINGS; all say that 1 is their PARENT, 5 too.
        Story.setChild(x, version, 1, 2);
        Story.setSibling(x, version, 2, 3);
        Story.setSibling(x, version, 3, 4);
        for (int object = 2; object <= 5; object++) {
            Story.setParent(x, version, object, 1);
        }
        due.is("remove(5), to which none leads", x.remove(5), -3);
        due.is("faults", Story.faults(x), "1 5:6");
        due.is("remove(4), three on", x.remove(4), 1);
        due.is("remove(3), two on", x.remove(3), 1);
        due.is("remove(2), the first", x.remove(2), 1);
    }

    private static void stopsAtNoObject(int version) {
        ZObjects x = Story.plain(version, 3);
        Story.setChild(x, version, 1, 2);
        Story.setParent(x, version, 3, 1);
        int[] none = {0, 4, 101, 255};
        for (int link : none) {
            Story.setSibling(x, version, 2, link);
            due.is("remove(3) behind " + link, x.remove(3), -3);
        }
        // What would be the entry of 4 leads on to 3, but 4 is no object yet.
        Story.setSibling(x, version, 2, 4);
        Story.setSibling(x, version, 4, 3);
        due.is("remove(3) behind what is no object", x.remove(3), -3);
        x.object();
        Story.setSibling(x, version, 4, 3);
        due.is("remove(3) behind what is one now", x.remove(3), 1);
        due.is("sibling(4)", x.sibling(4), 0);
    }

    private static void stopsAtHighNumbers(int version) {
        ZObjects x = Story.plain(version, 3);
        Story.setChild(x, version, 1, 2);
        Story.setParent(x, version, 3, 1);
        int[] none = {256 + 3, 512 + 3, 32768 + 3, 65280 + 3};
        for (int link : none) {
            Story.setSibling(x, version, 2, link);
            due.is("remove(3) behind " + link, x.remove(3), -3);
        }
        Story.setParent(x, version, 3, 256 + 1);
        Story.setSibling(x, version, 2, 3);
        due.is("remove(3) with PARENT 257", x.remove(3), -3);
    }

    private static void goesAHundredTimes(int version) {
        // Back to itself by all 100: found by the hundredth going, not sooner.
        ZObjects x = Story.bare(version, 100);
        for (int object = 1; object <= 100; object++) {
            Story.setSibling(x, version, object, object % 100 + 1);
        }
        due.is("judge(): 5 and 8 of all, 10 of all but one", x.judge(), 299);
        due.is("ring(0)", x.ring(0), 16 + 5);
        due.is("ring(296)", x.ring(296), 1600 + 5);
        ZObjects y = Story.bare(version, 100);
        for (int object = 1; object <= 100; object++) {
            Story.setParent(y, version, object, object % 100 + 1);
        }
        due.is("judge(): 4 and 6 of all, 10 of all but one", y.judge(), 299);
        due.is("ring(0)", y.ring(0), 16 + 4);
        due.is("ring(296)", y.ring(296), 1600 + 4);
        // A row of all 100, with the object at its end.
        ZObjects z = Story.bare(version, 100);
        for (int object = 1; object < 100; object++) {
            Story.setSibling(z, version, object, object + 1);
        }
        Story.setChild(z, version, 50, 1);
        Story.setParent(z, version, 100, 50);
        due.is("remove(100), 99 goings behind the CHILD", z.remove(100), 1);
        due.is("sibling(99)", z.sibling(99), 0);
    }

    private static String byObject(ZObjects x, int object) {
        return x.move(object, 1) + " " + x.move(1, object) + " " + x.remove(object) + " " + x.attribute(object, 0, 1)
                + " " + x.property(object, 1) + " " + x.put(object, 1, 1) + " " + x.next(object, 0) + " "
                + x.address(object, 1) + " " + x.name(object, 0) + " " + x.named(object) + " " + x.within(object, 0);
    }

    private static void unknownNumbers(int version) {
        String allUnknown = "-1 -1 -1 -1 -1 -1 -1 -1 -1 -1 -1";
        ZObjects empty = new ZObjects(version);
        due.is("all of 1 without objects", byObject(empty, 1), allUnknown);
        due.is("all of 0 without objects", byObject(empty, 0), allUnknown);
        due.is("links of 1 without objects", Story.links(empty, 1), "-1 -1 -1");
        ZObjects x = Story.plain(version, 2);
        for (int object : NO_OBJECTS_OF_TWO) {
            due.is("all of " + object, byObject(x, object), allUnknown);
            if (object != 0) {
                due.is("links of " + object, Story.links(x, object), "-1 -1 -1");
            }
        }
        due.is("links of 2, the last", Story.links(x, 2), "0 0 0");
        ZObjects full = Story.bare(version, 100);
        due.is("links of 100", Story.links(full, 100), "0 0 0");
        due.is("all of 101", byObject(full, 101), allUnknown);
    }

    private static void outsideRanges(int version) {
        ZObjects x = Story.plain(version, 1);
        int last = Story.defaults(version);
        int[] far = {Integer.MIN_VALUE, -1, 4097, 70000, Integer.MAX_VALUE};
        for (int n : far) {
            due.is("type(0, " + n + ")", x.type(0, n), -2);
            due.is("peek(" + n + ")", x.peek(n), -2);
            due.is("poke(" + n + ", 1)", x.poke(n, 1), -2);
            due.is("attribute(1, " + n + ", 0)", x.attribute(1, n, 0), -2);
            due.is("attribute(1, 0, " + n + ")", x.attribute(1, 0, n), -2);
            due.is("property(1, " + n + ")", x.property(1, n), -2);
            due.is("put(1, " + n + ", 0)", x.put(1, n, 0), -2);
            due.is("next(1, " + n + ")", x.next(1, n), -2);
            due.is("address(1, " + n + ")", x.address(1, n), -2);
            due.is("length(" + n + ")", x.length(n), -2);
            due.is("fallback(" + n + ", 0)", x.fallback(n, 0), -2);
            due.is("name(1, " + n + ")", x.name(1, n), -2);
            due.is("ring(" + n + ")", x.ring(n), -2);
        }
        due.is("next(1, D + 1)", x.next(1, last + 1), -2);
        due.is("within(1, -1)", x.within(1, -1), -2);
        due.is("within(1, MIN)", x.within(1, Integer.MIN_VALUE), -2);
    }

    private static void notInThisState(int version) {
        ZObjects x = Story.plain(version, 2);
        Story.setParent(x, version, 1, 2);
        due.is("move(1, 2)", x.move(1, 2), -3);
        due.is("remove(1)", x.remove(1), -3);
        due.is("put(1, 1, 1)", x.put(1, 1, 1), -3);
        due.is("next(1, 1)", x.next(1, 1), -3);
        ZObjects y = Story.one(version, threeBytes(version));
        due.is("property(1, 2)", y.property(1, 2), -3);
        due.is("put(1, 2, 1)", y.put(1, 2, 1), -3);
    }

    /** A table with property 2 of SIZE 3. */
    private static int[] threeBytes(int version) {
        return Story.isWide(version) ? new int[] {0, 128 + 2, 128 + 3, 1, 2, 3, 0} : new int[] {0, 64 + 2, 1, 2, 3, 0};
    }

    private static void noRoom(int version) {
        ZObjects x = new ZObjects(version);
        Story.type(x, new int[250]);
        due.is("type(0, 1) behind 250", x.type(0, 1), -4);
        ZObjects full = Story.bare(version, 100);
        due.is("object() behind 100", full.object(), -4);
        due.is("object() beyond TOP 4096", atTheTop(version, 55).object(), -4);
    }

    /** TOP is 4042, and so many bytes are in THE ROW. */
    private static ZObjects atTheTop(int version, int many) {
        ZObjects x = new ZObjects(version);
        for (int i = 0; i < 9; i++) {
            Story.make(x, new int[250]);
        }
        Story.type(x, new int[many]);
        return x;
    }

    private static void firstThatFits(int version) {
        ZObjects x = Story.plain(version, 2);
        due.is("attribute(3, -1, -1): -1 before -2", x.attribute(3, -1, -1), -1);
        due.is("property(3, 0): -1 before -2", x.property(3, 0), -1);
        due.is("put(3, 0, 1): -1 before -2", x.put(3, 0, 1), -1);
        due.is("next(3, -1): -1 before -2", x.next(3, -1), -1);
        due.is("address(3, 0): -1 before -2", x.address(3, 0), -1);
        due.is("name(3, -1): -1 before -2", x.name(3, -1), -1);
        due.is("within(3, -1): -1 before -2", x.within(3, -1), -1);
        due.is("put(1, 64, 1): -2 before -3", x.put(1, 64, 1), -2);
        due.is("next(1, 64): -2 before -3", x.next(1, 64), -2);
        Story.setParent(x, version, 1, 9);
        due.is("move(1, 3): -1 before -3", x.move(1, 3), -1);
        due.is("move(3, 1): -1 before -3", x.move(3, 1), -1);
        x.strict(true);
        due.is("move(3, 3): -1 before -3", x.move(3, 3), -1);
        due.is("move(0, 0): -1 before -3", x.move(0, 0), -1);
        Story.type(x, new int[250]);
        due.is("type(0, 9): -2 before -4", x.type(0, 9), -2);
        due.is("type(0, -1): -2 before -4", x.type(0, -1), -2);
    }

    /** Two in one, with a property of SIZE 3 and THE ROW begun, STRICT. */
    private static ZObjects tree(int version) {
        ZObjects x = Story.one(version, threeBytes(version));
        Story.makePlain(x, 4);
        x.move(2, 1);
        x.move(3, 1);
        x.move(4, 3);
        Story.setParent(x, version, 5, 200);
        Story.setSibling(x, version, 5, 2);
        x.type(0x010203, 3);
        x.strict(true);
        return x;
    }

    private static void nothingIsChanged(int version) {
        int last = Story.defaults(version);
        int bits = Story.isWide(version) ? 48 : 32;
        edges.refused("type(-1, 9)", -2, () -> tree(version), x -> x.type(-1, 9));
        edges.refused("type(-1, -1)", -2, () -> tree(version), x -> x.type(-1, -1));
        edges.refused("poke(-1, 255)", -2, () -> tree(version), x -> x.poke(-1, 255));
        edges.refused("poke(4096, 255)", -2, () -> tree(version), x -> x.poke(4096, 255));
        edges.refused("move(9, 1)", -1, () -> tree(version), x -> x.move(9, 1));
        edges.refused("move(2, 9)", -1, () -> tree(version), x -> x.move(2, 9));
        edges.refused("move(2, 0)", -1, () -> tree(version), x -> x.move(2, 0));
        edges.refused("move(5, 1)", -3, () -> tree(version), x -> x.move(5, 1));
        edges.refused("move(3, 4), STRICT", -3, () -> tree(version), x -> x.move(3, 4));
        edges.refused("move(3, 3), STRICT", -3, () -> tree(version), x -> x.move(3, 3));
        edges.refused("remove(0)", -1, () -> tree(version), x -> x.remove(0));
        edges.refused("remove(6)", -1, () -> tree(version), x -> x.remove(6));
        edges.refused("remove(5)", -3, () -> tree(version), x -> x.remove(5));
        edges.refused("attribute(0, 0, 1)", -1, () -> tree(version), x -> x.attribute(0, 0, 1));
        edges.refused("attribute(6, 0, 1)", -1, () -> tree(version), x -> x.attribute(6, 0, 1));
        edges.refused("attribute(1, many, 1)", -2, () -> tree(version), x -> x.attribute(1, bits, 1));
        edges.refused("attribute(1, -1, 1)", -2, () -> tree(version), x -> x.attribute(1, -1, 1));
        edges.refused("attribute(1, 0, 3)", -2, () -> tree(version), x -> x.attribute(1, 0, 3));
        edges.refused("put(0, 2, -1)", -1, () -> tree(version), x -> x.put(0, 2, -1));
        edges.refused("put(1, 0, -1)", -2, () -> tree(version), x -> x.put(1, 0, -1));
        edges.refused("put(1, D + 1, -1)", -2, () -> tree(version), x -> x.put(1, last + 1, -1));
        edges.refused("put(1, 2, -1)", -3, () -> tree(version), x -> x.put(1, 2, -1));
        edges.refused("put(1, 3, -1)", -3, () -> tree(version), x -> x.put(1, 3, -1));
        edges.refused("fallback(0, -1)", -2, () -> tree(version), x -> x.fallback(0, -1));
        edges.refused("fallback(D + 1, -1)", -2, () -> tree(version), x -> x.fallback(last + 1, -1));
        edges.refused("type(-1, 8) behind 243", -4, () -> withRow(version, 243), x -> x.type(-1, 8));
        edges.refused("object() behind 100", -4, () -> full(version), ZObjects::object);
        edges.refused("object() beyond TOP 4096", -4, () -> atTheTop(version, 55), ZObjects::object);
        edges.refused("property(1, 2)", -3, () -> tree(version), x -> x.property(1, 2));
        edges.refused("next(1, 9)", -3, () -> tree(version), x -> x.next(1, 9));
        edges.refused("within(1, -1)", -2, () -> tree(version), x -> x.within(1, -1));
    }

    private static ZObjects withRow(int version, int many) {
        ZObjects x = new ZObjects(version);
        Story.type(x, new int[many]);
        return x;
    }

    private static ZObjects full(int version) {
        ZObjects x = Story.bare(version, 100);
        x.type(0x010203, 3);
        return x;
    }

    private static void numbersOfObjects(int version) {
        ZObjects x = new ZObjects(version);
        for (int object = 1; object <= 100; object++) {
            due.is("object()", x.object(), object);
        }
        due.is("object() behind 100", x.object(), -4);
        due.is("count()", x.count(), 100);
        due.is("sibling(100)", x.sibling(100), 0);
        due.is("sibling(101)", x.sibling(101), -1);
    }
}
