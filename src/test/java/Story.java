/** What the tests need to fill a ZObjects: tables, names, and where the parts of an entry stand. */
final class Story {
    private Story() {
    }

    static boolean isWide(int version) {
        return version >= 4;
    }

    static int defaults(int version) {
        return isWide(version) ? 63 : 31;
    }

    /** The lowest first byte of a property of SIZE 2. */
    static int two(int version) {
        return isWide(version) ? 64 : 32;
    }

    /** The highest number that a link can hold. */
    static int highestLink(int version) {
        return isWide(version) ? 65535 : 255;
    }

    /** A story of objects with a table each, without names and properties. */
    static ZObjects plain(int version, int many) {
        ZObjects x = new ZObjects(version);
        makePlain(x, many);
        return x;
    }

    /** A story of objects by one call each; all have their tables at 1792. */
    static ZObjects bare(int version, int many) {
        ZObjects x = new ZObjects(version);
        for (int i = 0; i < many; i++) {
            x.object();
        }
        return x;
    }

    /** A story of one object with this table. */
    static ZObjects one(int version, int... table) {
        ZObjects x = new ZObjects(version);
        make(x, table);
        return x;
    }

    /** A story of one object whose table begins at an address, with these bytes. */
    static ZObjects oneAt(int version, int address, int... table) {
        ZObjects x = one(version, 0, 0);
        setTable(x, version, 1, address);
        for (int i = 0; i < table.length && address + i < 4096; i++) {
            x.poke(address + i, table[i]);
        }
        return x;
    }

    /** Makes an object with these bytes as its table: its number. */
    static int make(ZObjects x, int... table) {
        type(x, table);
        return x.object();
    }

    static void makePlain(ZObjects x, int many) {
        for (int i = 0; i < many; i++) {
            make(x, 0, 0);
        }
    }

    /** Types bytes as the whole row, eight a call. */
    static int type(ZObjects x, int... bytes) {
        int size = x.type(0, 0);
        for (int from = 0; from < bytes.length; from += 8) {
            int many = Math.min(8, bytes.length - from);
            long w = 0;
            for (int i = 0; i < many; i++) {
                w = w << 8 | bytes[from + i] & 255;
            }
            size = x.type(w, many);
        }
        return size;
    }

    /** The bytes of words that hold these signs, filled up with sign 5; the last word has bit 15. */
    static int[] words(int... signs) {
        int many = (signs.length + 2) / 3;
        int[] bytes = new int[2 * many];
        for (int i = 0; i < many; i++) {
            int word = i == many - 1 ? 1 : 0;
            for (int k = 3 * i; k < 3 * i + 3; k++) {
                word = word << 5 | (k < signs.length ? signs[k] : 5);
            }
            bytes[2 * i] = word >> 8;
            bytes[2 * i + 1] = word & 255;
        }
        return bytes;
    }

    /** A table with a name of these signs and no properties. */
    static int[] titled(int... signs) {
        int[] words = words(signs);
        int[] table = new int[words.length + 2];
        table[0] = words.length / 2;
        System.arraycopy(words, 0, table, 1, words.length);
        return table;
    }

    static void pokeBytes(ZObjects x, int at, int... bytes) {
        for (int i = 0; i < bytes.length; i++) {
            x.poke(at + i, bytes[i]);
        }
    }

    static void pokeWord(ZObjects x, int at, int value) {
        x.poke(at, value >> 8);
        x.poke(at + 1, value);
    }

    static int peekWord(ZObjects x, int at) {
        return 256 * x.peek(at) + x.peek(at + 1);
    }

    static int entry(int version, int object) {
        return isWide(version) ? 382 + 14 * (object - 1) : 318 + 9 * (object - 1);
    }

    static void setParent(ZObjects x, int version, int object, int to) {
        setLink(x, version, object, 0, to);
    }

    static void setSibling(ZObjects x, int version, int object, int to) {
        setLink(x, version, object, 1, to);
    }

    static void setChild(ZObjects x, int version, int object, int to) {
        setLink(x, version, object, 2, to);
    }

    private static void setLink(ZObjects x, int version, int object, int link, int to) {
        if (isWide(version)) {
            pokeWord(x, entry(version, object) + 6 + 2 * link, to);
        } else {
            x.poke(entry(version, object) + 4 + link, to);
        }
    }

    static int tableAt(int version, int object) {
        return entry(version, object) + (isWide(version) ? 12 : 7);
    }

    static void setTable(ZObjects x, int version, int object, int address) {
        pokeWord(x, tableAt(version, object), address);
    }

    static int table(ZObjects x, int version, int object) {
        return peekWord(x, tableAt(version, object));
    }

    static String links(ZObjects x, int object) {
        return x.parent(object) + " " + x.sibling(object) + " " + x.child(object);
    }

    static String name(ZObjects x, int object) {
        StringBuilder text = new StringBuilder();
        int size = x.named(object);
        for (int i = 0; i < size; i++) {
            text.append((char) x.name(object, i));
        }
        return text.toString();
    }

    static String within(ZObjects x, int object) {
        StringBuilder text = new StringBuilder();
        for (int k = 0; k <= 101; k++) {
            int found = x.within(object, k);
            if (found == 0) {
                return text.toString().trim();
            }
            text.append(found).append(' ');
        }
        return "no end: " + text;
    }

    /** All faults as object:code, with what judge() answers before them. */
    static String faults(ZObjects x) {
        int many = x.judge();
        StringBuilder text = new StringBuilder().append(many);
        for (int i = 0; i < many; i++) {
            int fault = x.ring(i);
            text.append(' ').append(fault / 16).append(':').append(fault % 16);
        }
        return text.toString();
    }
}
