import java.util.Arrays;

/** The edges that the coding of names and promises 20 and 21 name. */
public final class NamesEdgesTest {
    private static final Edges edges = new Edges("NamesEdgesTest");
    private static final Due due = edges.due();
    private static final int AT = 3000;

    public static void main(String[] args) {
        words();
        alphabets();
        shiftsOfVersions3To8();
        shiftsOfVersions1And2();
        abbreviations();
        limits();
        calls();
        edges.end("Names", "Promise 20", "Promise 21");
    }

    private static void words() {
        edges.of("Names", "the NAME's WORDS give signs of 5 bits, three each (bits 14 .. 10, 9 .. 5, 4 .. 0)",
                NamesEdgesTest::signsOfAWord);
        edges.of("Names", "up to and with the first WORD whose bit 15 is 1", NamesEdgesTest::endByBit15);
        edges.of("Names", "or that is the last one", NamesEdgesTest::endByTheLast);
    }

    private static void alphabets() {
        edges.of("Names", "ALPHABETS: 0: 6 .. 31 are a .. z", NamesEdgesTest::alphabet0);
        edges.of("Names", "1: A .. Z", NamesEdgesTest::alphabet1);
        edges.of("Names", "2: 7 is byte 13, 8 .. 31 are 0123456789.,!?_#'\"/\\-:()", 2, 8,
                v -> alphabet2(v, "\r0123456789.,!?_#'\"/\\-:()"));
        edges.of("Names", "in version 1 of 2: 7 .. 31 are 0123456789.,!?_#'\"/\\<-:()", 1, 1,
                v -> alphabet2(v, "0123456789.,!?_#'\"/\\<-:()"));
        edges.of("Names", "In alphabet 2 sign 6 begins an OWN one", NamesEdgesTest::ownBegins);
        edges.of("Names", "the next two signs, the higher first, make a number of 10 bits", NamesEdgesTest::ownNumber);
        edges.of("Names", "of which the lowest 8 are the byte", NamesEdgesTest::ownLowest8);
        edges.of("Names", "with fewer signs left: nothing", NamesEdgesTest::ownCutOff);
        edges.of("Names", "Sign 0 is byte 32", NamesEdgesTest::spaces);
    }

    private static void shiftsOfVersions3To8() {
        edges.of("Names", "Versions 3 to 8: sign 4: the next sign by alphabet 1, 5: by 2; else by 0", 3, 8,
                NamesEdgesTest::shiftsOfOneSign);
        edges.of("Names", "what a shift is for is the sign behind it, whatever that is", 3, 8,
                NamesEdgesTest::shiftIsUsedUp);
        edges.of("Names", "a shift behind a shift counts in its place", 3, 8, NamesEdgesTest::shiftBehindShift);
        edges.of("Names", "1, 2, 3 and the next sign x: ABBREVIATION 32 (s - 1) + x", 3, 8,
                NamesEdgesTest::numbersOfAbbreviations);
        edges.of("Names", "at the end of the signs: nothing", 2, 8, NamesEdgesTest::abbreviationCutOff);
    }

    private static void shiftsOfVersions1And2() {
        edges.of("Names", "Versions 1, 2: there is an alphabet at hand, 0 at first", 1, 2, NamesEdgesTest::atHandAtFirst);
        edges.of("Names", "2, 3: the next sign by the one that is 1, 2 higher", 1, 2, NamesEdgesTest::higherForOneSign);
        edges.of("Names", "0 behind 2", 1, 2, NamesEdgesTest::noughtBehindTwo);
        edges.of("Names", "4, 5: so is the alphabet at hand from now on", 1, 2, NamesEdgesTest::higherFromNowOn);
        edges.of("Names", "1: in version 1 byte 13", 1, 1, NamesEdgesTest::signOneOfVersion1);
        edges.of("Names", "in 2 ABBREVIATION x, x being the next sign", 2, 2, NamesEdgesTest::signOneOfVersion2);
    }

    private static void abbreviations() {
        edges.of("Names", "ABBREVIATION k: the WORD at 64 and 2 k", 2, 8, NamesEdgesTest::placeOfAbbreviations);
        edges.of("Names", "twice that (% 65536) is the address from which WORDS give its signs", 2, 8,
                NamesEdgesTest::addressOfAbbreviations);
        edges.of("Names", "to the first with bit 15", 2, 8, NamesEdgesTest::abbreviationEndsByBit15);
        edges.of("Names", "or the end of MEMORY", 2, 8, NamesEdgesTest::abbreviationEndsWithMemory);
        edges.of("Names", "read as a NAME of its own", 2, 8, NamesEdgesTest::nameOfItsOwn);
        edges.of("Names", "an ABBREVIATION in it is byte 63", 2, 8, NamesEdgesTest::abbreviationInIt);
        edges.of("Names", "Behind it all is as before it", 2, 8, NamesEdgesTest::behindIt);
        edges.of("Names", "with no shift", 2, 8, NamesEdgesTest::noShiftBehindIt);
    }

    private static void limits() {
        edges.of("Names", "A NAME has 250 bytes at most", NamesEdgesTest::atMost250);
        edges.of("Names", "what would be more is lost", NamesEdgesTest::moreIsLost);
        edges.of("Names", "what would be more is lost", 2, 8, NamesEdgesTest::moreOfAbbreviationsIsLost);
    }

    private static void calls() {
        edges.of("Promise 20", "Byte i of an object's NAME", NamesEdgesTest::bytesOfAName);
        edges.of("Promise 20", "-1", NamesEdgesTest::nameOfNoObject);
        edges.of("Promise 20", "-2: it has none", NamesEdgesTest::nameHasNone);
        edges.of("Promise 21", "How many bytes an object's NAME has", NamesEdgesTest::howMany);
        edges.of("Promise 21", "-1", NamesEdgesTest::namedOfNoObject);
    }

    /** A name of these signs; what is missing in the last word are signs 5, which say nothing. */
    private static void reads(int version, String want, int... signs) {
        ZObjects x = Story.one(version, Story.titled(signs));
        due.is(Arrays.toString(signs), Story.name(x, 1), want);
    }

    /** A name of these signs, where abbreviation k stands at 3000. */
    private static void readsWith(int version, int k, int[] abbreviation, String want, int... signs) {
        ZObjects x = Story.one(version, Story.titled(signs));
        Story.pokeWord(x, 64 + 2 * k, AT / 2);
        Story.pokeBytes(x, AT, Story.words(abbreviation));
        due.is(Arrays.toString(signs) + " with " + Arrays.toString(abbreviation), Story.name(x, 1), want);
    }

    private static int[] signs(int... signs) {
        return signs;
    }

    private static int second(int version) {
        return version < 3 ? 2 : 4;
    }

    private static int third(int version) {
        return version < 3 ? 3 : 5;
    }

    private static void signsOfAWord(int version) {
        int[][] words = {{0x18, 0xe8}, {0x00, 0x00}, {0x7f, 0xff}, {0x18, 0x1f}, {0x7c, 0x06}, {0x03, 0xe6}};
        String[] want = {"abc", "   ", "zzz", "a z", "z a", " za"};
        for (int i = 0; i < words.length; i++) {
            ZObjects x = Story.one(version, 1, words[i][0], words[i][1], 0);
            due.is("word " + i, Story.name(x, 1), want[i]);
            x.poke(1793, words[i][0] | 128);
            due.is("word " + i + " with bit 15", Story.name(x, 1), want[i]);
        }
    }

    private static void endByBit15(int version) {
        ZObjects x = Story.one(version, 3, 0x18, 0xc6, 0x1c, 0xe7, 0x21, 0x08, 0);
        due.is("no bit 15", Story.name(x, 1), "aaabbbccc");
        x.poke(1795, 0x9c);
        due.is("bit 15 of the second", Story.name(x, 1), "aaabbb");
        x.poke(1793, 0x98);
        due.is("bit 15 of the first and second", Story.name(x, 1), "aaa");
        x.poke(1795, 0x1c);
        due.is("bit 15 of the first", Story.name(x, 1), "aaa");
        x.poke(1793, 0x7c);
        due.is("bit 14 of the first", Story.name(x, 1), "zaabbbccc");
        x.poke(1793, 0x18);
        x.poke(1797, 0xa1);
        due.is("bit 15 of the last", Story.name(x, 1), "aaabbbccc");
    }

    private static void endByTheLast(int version) {
        ZObjects x = Story.one(version, 2, 0x18, 0xc6, 0x1c, 0xe7, 0x21, 0x08, 0);
        due.is("L = 2, without bit 15", Story.name(x, 1), "aaabbb");
        x.poke(1792, 1);
        due.is("L = 1, without bit 15", Story.name(x, 1), "aaa");
        x.poke(1792, 0);
        due.is("L = 0", Story.name(x, 1), "");
        Story.setTable(x, version, 1, 4093);
        Story.pokeBytes(x, 4093, 1, 0x18, 0xc6);
        due.is("the last word of MEMORY", Story.name(x, 1), "aaa");
        x.poke(4093, 2);
        due.is("and one beyond, which is 0", Story.name(x, 1), "aaa   ");
    }

    private static void alphabet0(int version) {
        reads(version, "a", 6);
        reads(version, "b", 7);
        reads(version, "y", 30);
        reads(version, "z", 31);
        reads(version, "abcdefghijklmnopqrstuvwxyz", fromTo(6, 31));
    }

    private static int[] fromTo(int first, int last) {
        int[] signs = new int[last - first + 1];
        for (int i = 0; i < signs.length; i++) {
            signs[i] = first + i;
        }
        return signs;
    }

    /** A shift before each of the signs. */
    private static int[] shifted(int shift, int[] plain) {
        int[] signs = new int[2 * plain.length];
        for (int i = 0; i < plain.length; i++) {
            signs[2 * i] = shift;
            signs[2 * i + 1] = plain[i];
        }
        return signs;
    }

    private static void alphabet1(int version) {
        reads(version, "A", second(version), 6);
        reads(version, "Z", second(version), 31);
        reads(version, "ABCDEFGHIJKLMNOPQRSTUVWXYZ", shifted(second(version), fromTo(6, 31)));
    }

    private static void alphabet2(int version, String want) {
        reads(version, want.substring(0, 1), third(version), 7);
        reads(version, want.substring(1, 2), third(version), 8);
        reads(version, ")", third(version), 31);
        reads(version, want, shifted(third(version), fromTo(7, 31)));
    }

    private static void ownBegins(int version) {
        int third = third(version);
        reads(version, "%a", third, 6, 1, 5, 6);
        reads(version, "ab", 6, 7);
        reads(version, "Ab", second(version), 6, 7);
        // The two signs are no shifts and no abbreviations, whatever they are.
        reads(version, "!b", third, 6, 1, 1, 7);
        reads(version, "\u0084b", third, 6, 4, 4, 7);
        reads(version, "\u00a5b", third, 6, 5, 5, 7);
        reads(version, "\u00c6b", third, 6, 6, 6, 7);
        reads(version, "%%", third, 6, 1, 5, third, 6, 1, 5);
        if (version < 3) {
            reads(version, "%%", 5, 6, 1, 5, 6, 1, 5);
        }
    }

    private static void ownNumber(int version) {
        int third = third(version);
        reads(version, "A", third, 6, 2, 1);
        reads(version, "\"", third, 6, 1, 2);
        reads(version, "\0", third, 6, 0, 0);
        reads(version, "\u0001", third, 6, 0, 1);
        reads(version, " ", third, 6, 1, 0);
        reads(version, "\u007f", third, 6, 3, 31);
        reads(version, "\u0080", third, 6, 4, 0);
    }

    private static void ownLowest8(int version) {
        int third = third(version);
        reads(version, "\u00ff", third, 6, 7, 31);
        reads(version, "\0", third, 6, 8, 0);
        reads(version, "A", third, 6, 10, 1);
        reads(version, "\u0080", third, 6, 12, 0);
        reads(version, "\u00ff", third, 6, 31, 31);
        ZObjects x = Story.one(version, Story.titled(third, 6, 31, 31));
        due.is("name(1, 0)", x.name(1, 0), 255);
    }

    private static void ownCutOff(int version) {
        int third = third(version);
        reads(version, "a", 6, third, 6);
        for (int left = 0; left < 32; left++) {
            reads(version, "", third, 6, left);
            reads(version, "abc", 6, 7, 8, third, 6, left);
        }
        reads(version, "aa\u0021", 6, 6, third, 6, 1, 1);
        // The words behind that with bit 15 are not taken for it.
        int[] first = Story.words(6, third, 6);
        ZObjects x = Story.one(version, 2, first[0], first[1], 0x18, 0xc6, 0);
        due.is("cut off by bit 15", Story.name(x, 1), "a");
    }

    private static void spaces(int version) {
        reads(version, "   ", 0, 0, 0);
        reads(version, " a", second(version), 0, 6);
        reads(version, " a", third(version), 0, 6);
        reads(version, "a ", 6, 0);
        if (version < 3) {
            reads(version, " A", 4, 0, 6);
            reads(version, " 5", 5, 0, version == 1 ? 12 : 13);
        }
    }

    private static void shiftsOfOneSign(int version) {
        reads(version, "Aa", 4, 6, 6);
        reads(version, "Zz", 4, 31, 31);
        reads(version, "\rb", 5, 7, 7);
        reads(version, ")z", 5, 31, 31);
        reads(version, "aAa0c", 6, 4, 6, 6, 5, 8, 8);
        reads(version, "a", 6, 4, 4);
        reads(version, "a", 6, 5, 5);
    }

    private static void shiftIsUsedUp(int version) {
        reads(version, " a", 4, 0, 6);
        reads(version, " c", 5, 0, 8);
        reads(version, "$c", 5, 6, 1, 4, 8);
        readsWith(version, 0, signs(8), "cc", 4, 1, 0, 8);
        readsWith(version, 95, signs(8), "cc", 5, 3, 31, 8);
    }

    private static void shiftBehindShift(int version) {
        reads(version, "0c", 4, 5, 8, 8);
        reads(version, "Cc", 5, 4, 8, 8);
        reads(version, "Cc", 4, 4, 8, 8);
        reads(version, "0c", 5, 5, 8, 8);
        reads(version, "Cc", 5, 5, 4, 8, 8);
        reads(version, "", 4, 5, 4, 5, 4, 5);
    }

    private static void numbersOfAbbreviations(int version) {
        int[][] numbers = {{1, 0, 0}, {1, 1, 1}, {1, 31, 31}, {2, 0, 32}, {2, 31, 63}, {3, 0, 64}, {3, 31, 95}};
        for (int[] n : numbers) {
            readsWith(version, n[2], signs(23, 24, 25), "crstd", 8, n[0], n[1], 9);
        }
    }

    private static void abbreviationCutOff(int version) {
        for (int sign = 1; sign <= (version == 2 ? 1 : 3); sign++) {
            reads(version, "ab", 6, 7, sign);
            ZObjects x = Story.one(version, 2, 0x98, 0xe0 + sign, 0x18, 0xc6, 0);
            due.is("cut off by bit 15 behind " + sign, Story.name(x, 1), "ab");
            x.poke(1793, 0x18);
            x.poke(1792, 1);
            due.is("cut off by L behind " + sign, Story.name(x, 1), "ab");
        }
    }

    private static void atHandAtFirst(int version) {
        reads(version, "a", 6);
        ZObjects x = Story.one(version, Story.titled(4, 6, 7));
        Story.make(x, Story.titled(6, 7));
        due.is("a name that ends by alphabet 1", Story.name(x, 1), "AB");
        due.is("the next one", Story.name(x, 2), "ab");
        due.is("the first again", Story.name(x, 1), "AB");
        Story.pokeBytes(x, 1793, Story.words(7, 7, 2));
        due.is("a name that ends with a shift", Story.name(x, 1), "bb");
        due.is("the next one", Story.name(x, 2), "ab");
    }

    private static String seven(int version) {
        return version == 1 ? "0" : "\r";
    }

    private static void higherForOneSign(int version) {
        reads(version, "Bb", 2, 7, 7);
        reads(version, seven(version) + "b", 3, 7, 7);
        reads(version, seven(version) + "B", 4, 2, 7, 7);
        reads(version, " b", 2, 0, 7);
        reads(version, " b", 3, 0, 7);
        reads(version, "$b", 3, 6, 1, 4, 7);
        // Higher than the alphabet at hand, which a shift of one sign does not change.
        reads(version, "Bb", 2, 2, 7, 7);
        reads(version, seven(version) + "b", 2, 3, 7, 7);
        reads(version, "Bb", 3, 2, 7, 7);
        reads(version, "BB", 2, 4, 7, 7);
    }

    private static void noughtBehindTwo(int version) {
        reads(version, "bB", 4, 3, 7, 7);
        reads(version, "b" + seven(version), 5, 2, 7, 7);
        reads(version, "B" + seven(version), 5, 3, 7, 7);
        reads(version, "bb", 4, 5, 7, 7);
        reads(version, "bb", 5, 4, 7, 7);
        reads(version, "BB", 5, 5, 7, 7);
        reads(version, "bb", 4, 4, 4, 7, 7);
    }

    private static void higherFromNowOn(int version) {
        reads(version, "BB BB", 4, 7, 7, 0, 7, 7);
        String s = seven(version);
        reads(version, s + s + " " + s + s, 5, 7, 7, 0, 7, 7);
        reads(version, "b" + "BB" + s + s, 7, 4, 7, 7, 4, 7, 7);
        reads(version, "$" + s, 5, 6, 1, 4, 7);
        reads(version, "BbB", 4, 7, 3, 7, 7);
    }

    private static void signOneOfVersion1(int version) {
        reads(version, "a\rb", 6, 1, 7);
        reads(version, "\r", 1);
        reads(version, "\rb", 2, 1, 7);
        reads(version, "\rb", 3, 1, 7);
        reads(version, "\rB", 4, 1, 7);
        reads(version, "\r\r\r", 1, 1, 1);
        reads(version, "ab\r", 6, 7, 1);
    }

    private static void signOneOfVersion2(int version) {
        int[] numbers = {0, 1, 2, 5, 6, 31};
        for (int x : numbers) {
            readsWith(version, x, signs(23, 24, 25), "crstd", 8, 1, x, 9);
        }
        // In version 2 signs 2 and 3 are shifts, not abbreviations.
        readsWith(version, 39, signs(23), "Bb", 2, 7, 7);
        readsWith(version, 71, signs(23), "\rb", 3, 7, 7);
    }

    private static void placeOfAbbreviations(int version) {
        ZObjects x = Story.one(version, Story.titled(1, 0));
        Story.make(x, Story.titled(version == 2 ? signs(1, 31) : signs(3, 31)));
        int last = version == 2 ? 64 + 62 : 64 + 190;
        Story.pokeBytes(x, AT, Story.words(23));
        Story.pokeBytes(x, AT + 2, Story.words(24));
        Story.pokeBytes(x, 64, AT / 2 >> 8, AT / 2 & 255);
        Story.pokeBytes(x, last, (AT + 2) / 2 >> 8, (AT + 2) / 2 & 255);
        due.is("the first", Story.name(x, 1), "r");
        due.is("the last", Story.name(x, 2), "s");
    }

    private static void addressOfAbbreviations(int version) {
        ZObjects x = Story.one(version, Story.titled(1, 0, 7));
        Story.pokeBytes(x, 0, Story.words(23));
        Story.pokeBytes(x, 4094, Story.words(24));
        int[] words = {0, 32768, 2047, 32768 + 2047, 2048, 32767, 32768 + 2048, 65535};
        String[] want = {"rb", "rb", "sb", "sb", "b", "b", "b", "b"};
        for (int i = 0; i < words.length; i++) {
            Story.pokeWord(x, 64, words[i]);
            due.is("twice " + words[i], Story.name(x, 1), want[i]);
        }
    }

    private static void abbreviationEndsByBit15(int version) {
        ZObjects x = Story.one(version, Story.titled(1, 0, 7));
        Story.pokeWord(x, 64, AT / 2);
        Story.pokeBytes(x, AT, 0x18, 0xc6, 0x1c, 0xe7, 0xa1, 0x08, 0x18, 0xc6);
        due.is("of three words", Story.name(x, 1), "aaabbbcccb");
        x.poke(AT + 2, 0x9c);
        due.is("of two words", Story.name(x, 1), "aaabbbb");
        x.poke(AT, 0x98);
        due.is("of one word", Story.name(x, 1), "aaab");
    }

    private static void abbreviationEndsWithMemory(int version) {
        ZObjects x = Story.one(version, Story.titled(1, 0, 7));
        Story.pokeWord(x, 64, 4092 / 2);
        Story.pokeBytes(x, 4092, 0x18, 0xc6, 0x1c, 0xe7);
        due.is("two words without bit 15", Story.name(x, 1), "aaabbbb");
        Story.pokeWord(x, 64, 4094 / 2);
        due.is("one word without bit 15", Story.name(x, 1), "bbbb");
        Story.pokeWord(x, 64, 4096 / 2);
        due.is("no word", Story.name(x, 1), "b");
    }

    private static void nameOfItsOwn(int version) {
        // What it does not end is not ended by the signs behind it.
        readsWith(version, 0, signs(third(version), 6, 1), "b", 1, 0, 7);
        readsWith(version, 0, signs(6, 7, 1), "abb", 1, 0, 7);
        readsWith(version, 0, signs(8, third(version), 6), "cbb", 1, 0, 7, 7);
        readsWith(version, 0, signs(second(version), 6, 7), "Abb", 1, 0, 7);
        if (version == 2) {
            readsWith(version, 0, signs(6, 7, 8), "Babc", 4, 7, 1, 0);
            readsWith(version, 0, signs(2, 6, 7), "\rAb", 5, 7, 1, 0);
        }
    }

    private static void abbreviationInIt(int version) {
        readsWith(version, 0, signs(6, 1, 0, 7), "a?bc", 1, 0, 8);
        readsWith(version, 0, signs(1, 31, 1, 30, 1, 29), "???c", 1, 0, 8);
        readsWith(version, 0, signs(second(version), 1, 9, 7), "?bc", 1, 0, 8);
        readsWith(version, 0, signs(6, 7, 1), "abc", 1, 0, 8);
        if (version > 2) {
            readsWith(version, 0, signs(2, 4, 3, 5, 7), "??bc", 1, 0, 8);
        }
        // Behind it one of the name itself is read again.
        readsWith(version, 0, signs(1, 0), "??c", 1, 0, 1, 0, 8);
    }

    private static void behindIt(int version) {
        readsWith(version, 0, signs(6), "bac", 7, 1, 0, 8);
        readsWith(version, 0, signs(6), "aa", 1, 0, 1, 0);
        if (version == 2) {
            readsWith(version, 0, signs(6), "BaCD", 4, 7, 1, 0, 8, 9);
            readsWith(version, 0, signs(4, 6), "bAcd", 7, 1, 0, 8, 9);
            readsWith(version, 0, signs(5, 8), "B0CD", 4, 7, 1, 0, 8, 9);
        }
    }

    private static void noShiftBehindIt(int version) {
        readsWith(version, 0, signs(6), "ac", second(version), 1, 0, 8);
        readsWith(version, 0, signs(6), "ac", third(version), 1, 0, 8);
        readsWith(version, 0, signs(6, 6, second(version)), "aac", 1, 0, 8);
        readsWith(version, 0, signs(6, 6, third(version)), "aac", 1, 0, 8);
        readsWith(version, 0, signs(6, 6, second(version)), "aac", third(version), 1, 0, 8);
        if (version == 2) {
            readsWith(version, 0, signs(6), "aC", 4, 2, 1, 0, 8);
        }
    }

    /** So many signs for a, of which the last is one for z. */
    private static int[] letters(int many) {
        int[] signs = new int[many];
        Arrays.fill(signs, 6);
        signs[many - 1] = 31;
        return signs;
    }

    private static void atMost250(int version) {
        int[] sizes = {249, 250, 251, 252, 300, 360};
        for (int size : sizes) {
            int[] words = Story.words(letters(size));
            ZObjects x = Story.one(version, 0, 0);
            Story.setTable(x, version, 1, AT);
            x.poke(AT, words.length / 2);
            Story.pokeBytes(x, AT + 1, words);
            due.is("named(1) of " + size, x.named(1), Math.min(250, size));
            due.is("name(1, 249) of " + size, x.name(1, 249), size == 249 ? -2 : size == 250 ? 'z' : 'a');
            due.is("name(1, 250) of " + size, x.name(1, 250), -2);
        }
    }

    private static void moreIsLost(int version) {
        // 249 letters and an own sign: it is byte 249; behind 250 it is lost.
        for (int before = 249; before <= 250; before++) {
            int[] signs = Arrays.copyOf(letters(before), before + 5);
            int[] behind = {third(version), 6, 4, 9, 7};
            System.arraycopy(behind, 0, signs, before, behind.length);
            int[] words = Story.words(signs);
            ZObjects x = Story.one(version, 0, 0);
            Story.setTable(x, version, 1, AT);
            x.poke(AT, words.length / 2);
            Story.pokeBytes(x, AT + 1, words);
            due.is("named(1)", x.named(1), 250);
            due.is("name(1, 249)", x.name(1, 249), before == 249 ? 0x89 : 'z');
            due.is("name(1, 250)", x.name(1, 250), -2);
            due.is("named(1) again", x.named(1), 250);
        }
    }

    private static void moreOfAbbreviationsIsLost(int version) {
        // 248 letters, then abbreviations of three letters each.
        int[] signs = Arrays.copyOf(letters(248), 252);
        int[] behind = {1, 0, 1, 0};
        System.arraycopy(behind, 0, signs, 248, 4);
        int[] words = Story.words(signs);
        ZObjects x = Story.one(version, 0, 0);
        Story.setTable(x, version, 1, 3500);
        x.poke(3500, words.length / 2);
        Story.pokeBytes(x, 3501, words);
        Story.pokeWord(x, 64, AT / 2);
        Story.pokeBytes(x, AT, Story.words(23, 24, 25));
        due.is("named(1)", x.named(1), 250);
        due.is("name(1, 247)", x.name(1, 247), 'z');
        due.is("name(1, 248)", x.name(1, 248), 'r');
        due.is("name(1, 249)", x.name(1, 249), 's');
        due.is("name(1, 250)", x.name(1, 250), -2);
        // An abbreviation of all of MEMORY is cut too.
        Story.pokeWord(x, 64, 0);
        due.is("named(1) with a long one", x.named(1), 250);
        due.is("name(1, 249) with a long one", x.name(1, 249), ' ');
    }

    private static void bytesOfAName(int version) {
        ZObjects x = Story.one(version, Story.titled(6, third(version), 6, 31, 31, 31));
        due.is("name(1, 0)", x.name(1, 0), 'a');
        due.is("name(1, 1)", x.name(1, 1), 255);
        due.is("name(1, 2)", x.name(1, 2), 'z');
        Story.make(x, Story.titled(7));
        due.is("name(2, 0)", x.name(2, 0), 'b');
        due.is("name(1, 0)", x.name(1, 0), 'a');
    }

    private static void nameOfNoObject(int version) {
        due.is("name(1, 0) without objects", new ZObjects(version).name(1, 0), -1);
        ZObjects x = Story.one(version, Story.titled(6));
        int[] none = {0, -1, 2, 101, Integer.MIN_VALUE, Integer.MAX_VALUE};
        for (int object : none) {
            due.is("name(" + object + ", 0)", x.name(object, 0), -1);
            due.is("name(" + object + ", -1)", x.name(object, -1), -1);
        }
    }

    private static void nameHasNone(int version) {
        ZObjects x = Story.one(version, Story.titled(6, 7, 8));
        due.is("name(1, 2), the last", x.name(1, 2), 'c');
        int[] none = {-1, 3, 250, Integer.MIN_VALUE, Integer.MAX_VALUE};
        for (int i : none) {
            due.is("name(1, " + i + ")", x.name(1, i), -2);
        }
        Story.make(x, 0, 0);
        due.is("name(2, 0) without a name", x.name(2, 0), -2);
        Story.make(x, Story.titled(5));
        due.is("name(3, 0) of shifts alone", x.name(3, 0), -2);
    }

    private static void howMany(int version) {
        ZObjects x = Story.one(version, 0, 0);
        Story.make(x, Story.titled(6));
        Story.make(x, Story.titled(6, 7, 8, 9));
        Story.make(x, Story.titled(5, 5, 5));
        due.is("named(1) without words", x.named(1), 0);
        due.is("named(2)", x.named(2), 1);
        due.is("named(3)", x.named(3), 4);
        due.is("named(4) of shifts alone", x.named(4), 0);
    }

    private static void namedOfNoObject(int version) {
        due.is("named(1) without objects", new ZObjects(version).named(1), -1);
        ZObjects x = Story.one(version, Story.titled(6));
        int[] none = {0, -1, 2, 101, Integer.MIN_VALUE, Integer.MAX_VALUE};
        for (int object : none) {
            due.is("named(" + object + ")", x.named(object), -1);
        }
    }
}
