import java.util.Arrays;

/** Promises 20 and 21: name and named, and the coding of names. */
public final class NamesTest {
    private static final Due due = new Due("NamesTest");

    public static void main(String[] args) {
        for (int version = 1; version <= 8; version++) {
            alphabets(version);
            ownSigns(version);
            wordsEnd(version);
            namesAtTheEndOfMemory(version);
            namesHaveALimit(version);
            refusals(version);
            followsMemory(version);
        }
        for (int version = 3; version <= 8; version++) {
            shiftsOfOneSign(version);
            abbreviations(version);
            abbreviationsEnd(version);
        }
        for (int version = 2; version <= 8; version++) {
            longestName(version);
        }
        shiftsThatLast(1);
        shiftsThatLast(2);
        lineEndOfVersion1();
        abbreviationsOfVersion2();
        due.end();
    }

    private static void reads(int version, String want, int... signs) {
        ZObjects x = new ZObjects(version);
        Story.make(x, Story.titled(signs));
        due.is("version " + version + ", " + Arrays.toString(signs), Story.name(x, 1), want);
    }

    private static int second(int version) {
        return version < 3 ? 2 : 4;
    }

    private static int third(int version) {
        return version < 3 ? 3 : 5;
    }

    private static void alphabets(int version) {
        String third = version == 1 ? "0123456789.,!?_#'\"/\\<-:()" : "\r0123456789.,!?_#'\"/\\-:()";
        for (int sign = 6; sign < 32; sign++) {
            reads(version, "" + (char) ('a' + sign - 6), sign);
            reads(version, "" + (char) ('A' + sign - 6), second(version), sign);
            if (sign > 6) {
                reads(version, "" + third.charAt(sign - 7) + "a", third(version), sign, 6);
            }
        }
        reads(version, "a b", 6, 0, 7);
        reads(version, " b", second(version), 0, 7);
        reads(version, " ab", third(version), 0, 6, 7);
        reads(version, "", 5);
        reads(version, "", new int[0]);
    }

    private static void ownSigns(int version) {
        int third = third(version);
        reads(version, "\u0089a", third, 6, 4, 9, 6);
        reads(version, "\u00ffa", third, 6, 31, 31, 6);
        reads(version, "\0a", third, 6, 0, 0, 6);
        reads(version, "\u0021a", third, 6, 9, 1, 6);
        reads(version, "a", 6, third, 6);
        reads(version, "aaa", 6, 6, 6, third, 6, 9);
        reads(version, "aa)", 6, 6, third, 6, 1, 9);
        reads(version, "a", 6);
        reads(version, "A", second(version), 6);
    }

    private static void wordsEnd(int version) {
        ZObjects x = new ZObjects(version);
        // Two words without bit 15: the second is the last, since L is 2.
        Story.make(x, 2, 0x18, 0xc6, 0x1c, 0xe7, 0xa1, 0x08, 0);
        due.is("a name that ends with L", Story.name(x, 1), "aaabbb");
        x.poke(1793, 0x98);
        due.is("a name that ends with bit 15", Story.name(x, 1), "aaa");
        Story.pokeBytes(x, 1793, 0x80, 0);
        due.is("a name that ends with bit 15 alone", Story.name(x, 1), "   ");
        x.poke(1792, 0);
        due.is("a name without words", Story.name(x, 1), "");
        due.is("named(1) without words", x.named(1), 0);
    }

    private static void namesAtTheEndOfMemory(int version) {
        ZObjects x = new ZObjects(version);
        Story.make(x, 0, 0);
        Story.setTable(x, version, 1, 4092);
        Story.pokeBytes(x, 4092, 3, 0x18, 0xc6, 0x1c);
        // Bytes beyond the memory are 0, and so the signs there.
        due.is("a name that goes beyond", Story.name(x, 1), "aaab     ");
        x.poke(4092, 200);
        due.is("a long name that goes beyond", x.named(1), 250);
    }

    private static void namesHaveALimit(int version) {
        ZObjects x = new ZObjects(version);
        int[] table = new int[200];
        table[0] = 90;
        for (int i = 1; i <= 180; i += 2) {
            table[i] = 0x18;
            table[i + 1] = 0xc7;
        }
        Story.make(x, table);
        due.is("named(1) of 270 signs", x.named(1), 250);
        due.is("name(1, 249)", x.name(1, 249), 'a');
        due.is("name(1, 248)", x.name(1, 248), 'b');
        due.is("name(1, 250)", x.name(1, 250), -2);
        x.poke(1792, 83);
        due.is("named(1) of 249 signs", x.named(1), 249);
        due.is("name(1, 249)", x.name(1, 249), -2);
    }

    private static void refusals(int version) {
        ZObjects x = new ZObjects(version);
        Story.make(x, Story.titled(6, 7, 8));
        int[] unknown = {0, -1, 2, Integer.MIN_VALUE, Integer.MAX_VALUE};
        for (int object : unknown) {
            due.is("named(" + object + ")", x.named(object), -1);
            due.is("name(" + object + ", -1)", x.name(object, -1), -1);
        }
        int[] outside = {-1, 3, 250, Integer.MIN_VALUE, Integer.MAX_VALUE};
        for (int i : outside) {
            due.is("name(1, " + i + ")", x.name(1, i), -2);
        }
        due.is("name(1, 2)", x.name(1, 2), 'c');
    }

    private static void followsMemory(int version) {
        ZObjects x = new ZObjects(version);
        Story.make(x, Story.titled(6, 7, 8));
        Story.make(x, Story.titled(9, 10));
        due.is("name of 1", Story.name(x, 1), "abc");
        due.is("name of 2", Story.name(x, 2), "de");
        due.is("name of 1 again", Story.name(x, 1), "abc");
        Story.pokeBytes(x, 1793, Story.words(31, 30, 29));
        due.is("name of 1, written over", Story.name(x, 1), "zyx");
        Story.setTable(x, version, 2, 1792);
        due.is("name of 2 in the table of 1", Story.name(x, 2), "zyx");
    }

    private static void shiftsOfOneSign(int version) {
        reads(version, "Ab", 4, 6, 7);
        reads(version, "0b", 5, 8, 7);
        reads(version, "0b", 4, 5, 8, 7);
        reads(version, "Cb", 5, 4, 8, 7);
        reads(version, "Cb", 4, 4, 8, 7);
        reads(version, " b", 4, 0, 7);
        reads(version, "\ra", 5, 7, 6);
        reads(version, "aaa", 6, 6, 6, 5, 5, 5);
    }

    private static void shiftsThatLast(int version) {
        String seven = version == 1 ? "0" : "\r";
        reads(version, "Bb", 2, 7, 7);
        reads(version, seven + "b", 3, 7, 7);
        reads(version, "BB", 4, 7, 7);
        reads(version, seven + seven, 5, 7, 7);
        // From alphabet 1: 2 leads to 2, 3 leads to 0.
        reads(version, seven + "B", 4, 2, 7, 7);
        reads(version, "bB", 4, 3, 7, 7);
        reads(version, seven + seven, 4, 4, 7, 7);
        reads(version, "bb", 4, 5, 7, 7);
        // From alphabet 2: 2 leads to 0, 3 leads to 1.
        reads(version, "b" + seven, 5, 2, 7, 7);
        reads(version, "B" + seven, 5, 3, 7, 7);
        reads(version, "bb", 5, 4, 7, 7);
        reads(version, "BB", 5, 5, 7, 7);
        // A shift is by the alphabet at hand, and is used up by the sign behind it.
        reads(version, "Bb", 2, 2, 7, 7);
        reads(version, seven + "b", 2, 3, 7, 7);
        reads(version, "BB", 3, 4, 7, 7);
        reads(version, " b", 2, 0, 7);
        reads(version, " B", 4, 0, 7);
        reads(version, "\u0089" + seven + "b", 5, 6, 4, 9, 7, 2, 7);
    }

    private static void lineEndOfVersion1() {
        reads(1, "a\rb", 6, 1, 7);
        reads(1, "\rb", 2, 1, 7);
        reads(1, "\r\rB", 4, 1, 1, 7);
    }

    /** A story with abbreviation k standing at an address. */
    private static ZObjects abbreviated(int version, int k, int address, int... signs) {
        ZObjects x = new ZObjects(version);
        Story.pokeWord(x, 64 + 2 * k, address / 2);
        Story.pokeBytes(x, address, Story.words(signs));
        return x;
    }

    private static void abbreviationsOfVersion2() {
        ZObjects x = abbreviated(2, 9, 3000, 4, 6, 7);
        Story.make(x, Story.titled(6, 1, 9, 7, 7));
        Story.make(x, Story.titled(4, 6, 1, 9, 7));
        Story.make(x, Story.titled(2, 1, 9, 7));
        Story.make(x, Story.titled(6, 7, 1));
        due.is("an abbreviation, with an alphabet of its own", Story.name(x, 1), "aABbb");
        due.is("the alphabet at hand comes back", Story.name(x, 2), "AABB");
        due.is("a shift before it is used up", Story.name(x, 3), "ABb");
        due.is("an abbreviation without its number", Story.name(x, 4), "ab");
        Story.pokeBytes(x, 3000, Story.words(1, 9, 6));
        due.is("an abbreviation in it", Story.name(x, 1), "a?abb");
        Story.pokeBytes(x, 3000, Story.words(6, 2, 3));
        due.is("a shift at its end", Story.name(x, 1), "aabb");
        ZObjects y = abbreviated(2, 31, 3000, 6, 7, 8);
        Story.make(y, Story.titled(1, 31));
        due.is("abbreviation 31", Story.name(y, 1), "abc");
    }

    private static void abbreviations(int version) {
        int[][] numbers = {{1, 0}, {1, 31}, {2, 0}, {2, 7}, {3, 0}, {3, 31}};
        for (int[] n : numbers) {
            ZObjects x = abbreviated(version, 32 * (n[0] - 1) + n[1], 3000, 4, 6, 7);
            Story.make(x, Story.titled(8, n[0], n[1], 8));
            due.is("abbreviation " + n[0] + " " + n[1], Story.name(x, 1), "cAbc");
        }
        ZObjects x = abbreviated(version, 33, 3000, 6, 5, 4);
        Story.make(x, Story.titled(4, 2, 1, 7));
        Story.make(x, Story.titled(6, 7, 2));
        Story.make(x, Story.titled(2, 1, 2, 1, 9));
        due.is("no shift goes into it or out of it", Story.name(x, 1), "ab");
        due.is("an abbreviation without its number", Story.name(x, 2), "ab");
        due.is("two of them", Story.name(x, 3), "aad");
        Story.pokeBytes(x, 3000, Story.words(6, 2, 1, 4, 3, 30, 7));
        due.is("abbreviations in it", Story.name(x, 1), "a??bb");
        Story.pokeBytes(x, 3000, Story.words(6, 7, 1));
        due.is("one without its number at its end", Story.name(x, 1), "abb");
        Story.pokeBytes(x, 3000, Story.words(5, 6, 1));
        due.is("an own sign that it does not end", Story.name(x, 1), "b");
    }

    private static void abbreviationsEnd(int version) {
        ZObjects x = new ZObjects(version);
        Story.make(x, Story.titled(1, 0, 7));
        due.is("an abbreviation at 0, all of memory", x.named(1), 250);
        Story.pokeWord(x, 64, 4092 / 2);
        Story.pokeBytes(x, 4092, 0x18, 0xc6, 0x1c, 0xe7);
        due.is("an abbreviation up to the end of memory", Story.name(x, 1), "aaabbbb");
        Story.pokeWord(x, 64, 4096 / 2);
        due.is("an abbreviation beyond", Story.name(x, 1), "b");
        Story.pokeWord(x, 64, 32767);
        due.is("an abbreviation far beyond", Story.name(x, 1), "b");
        Story.pokeWord(x, 64, 32768 + 4092 / 2);
        due.is("an abbreviation, twice its word % 65536", Story.name(x, 1), "aaabbbb");
    }

    /** 255 words with 381 abbreviations, each of 2688 signs that give nothing: what stands behind them is read still. */
    private static void longestName(int version) {
        int[] bytes = new int[2304];
        bytes[0] = 255;
        for (int i = 0; i < 255; i++) {
            int word = i == 254 ? 6 << 10 | 7 << 5 | 8 : i % 2 == 0 ? 1 << 10 | 1 : 1 << 5;
            bytes[1 + 2 * i] = word >> 8;
            bytes[2 + 2 * i] = word & 255;
        }
        for (int i = 512; i < bytes.length; i += 2) {
            bytes[i] = 0x10;
            bytes[i + 1] = 0x84;
        }
        ZObjects x = new ZObjects(version);
        for (int from = 0; from < bytes.length; from += 240) {
            Story.make(x, Arrays.copyOfRange(bytes, from, Math.min(bytes.length, from + 240)));
        }
        Story.pokeWord(x, 64, 2304 / 2);
        due.is("version " + version + ", the longest name", Story.name(x, 1), "abc");
    }
}
