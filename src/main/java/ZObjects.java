/** Objects of a story machine, held in the bytes of its memory; the document numbers what each method promises. */
public final class ZObjects {
    private static final int UNKNOWN = -1;
    private static final int OUT_OF_RANGE = -2;
    private static final int NOT_IN_STATE = -3;
    private static final int NO_ROOM = -4;

    private static final int MEMORY_SIZE = 4096;
    private static final int MOST_OBJECTS = 100;
    private static final int MOST_ROW_BYTES = 250;
    private static final int MOST_NAME_BYTES = 250;
    private static final int FIRST_TOP = 1792;
    private static final int DEFAULTS_AT = 256;
    private static final int ABBREVIATIONS_AT = 64;
    private static final int FAULT_CODES = 10;

    private static final int PARENT = 0;
    private static final int SIBLING = 1;
    private static final int CHILD = 2;

    private final Memory memory;
    private final Entries entries;
    private final Tree tree;
    private final PropertyRow properties;
    private final Speller speller;
    private final Faults faults;
    private final int defaults;
    private final byte[] row;
    private int rowSize;
    private int top;
    private boolean isStrict;

    public ZObjects(int version) {
        int known = Math.max(1, Math.min(8, version));
        boolean wide = known >= 4;
        memory = new Memory();
        defaults = wide ? 63 : 31;
        entries = new Entries(memory, wide, DEFAULTS_AT + 2 * defaults);
        tree = new Tree(entries);
        properties = new PropertyRow(memory, wide);
        speller = new Speller(memory, known);
        faults = new Faults(entries, properties);
        row = new byte[MOST_ROW_BYTES];
        rowSize = 0;
        top = FIRST_TOP;
        isStrict = false;
    }

    public int type(long w, int n) {
        if (n < 0 || n > 8) {
            return OUT_OF_RANGE;
        }
        if (n == 0) {
            rowSize = 0;
            return 0;
        }
        if (rowSize + n > MOST_ROW_BYTES) {
            return NO_ROOM;
        }
        for (int i = n - 1; i >= 0; i--) {
            row[rowSize] = (byte) (w >>> (8 * i));
            rowSize++;
        }
        return rowSize;
    }

    public int object() {
        if (entries.isFull() || top + rowSize > MEMORY_SIZE) {
            return NO_ROOM;
        }
        for (int i = 0; i < rowSize; i++) {
            memory.set(top + i, row[i]);
        }
        entries.add(top);
        top += rowSize;
        rowSize = 0;
        return entries.size();
    }

    public int count() {
        return entries.size();
    }

    public int peek(int a) {
        return memory.has(a) ? memory.get(a) : OUT_OF_RANGE;
    }

    public int poke(int a, int v) {
        if (!memory.has(a)) {
            return OUT_OF_RANGE;
        }
        int before = memory.get(a);
        memory.set(a, v);
        return before;
    }

    public boolean strict(boolean is) {
        boolean before = isStrict;
        isStrict = is;
        return before;
    }

    public int parent(int object) {
        return linkOf(object, PARENT);
    }

    public int child(int object) {
        return linkOf(object, CHILD);
    }

    public int sibling(int object) {
        return linkOf(object, SIBLING);
    }

    public int move(int object, int to) {
        if (!entries.has(object) || !entries.has(to)) {
            return UNKNOWN;
        }
        boolean isForbidden = isStrict && entries.comesTo(to, PARENT, object);
        if (isForbidden || !tree.canLeave(object)) {
            return NOT_IN_STATE;
        }
        tree.leave(object);
        tree.enter(object, to);
        return 1;
    }

    public int remove(int object) {
        if (!entries.has(object)) {
            return UNKNOWN;
        }
        if (!tree.canLeave(object)) {
            return NOT_IN_STATE;
        }
        tree.leave(object);
        return 1;
    }

    public int attribute(int object, int n, int act) {
        if (!entries.has(object)) {
            return UNKNOWN;
        }
        if (n < 0 || n >= entries.attributes() || act < 0 || act > 2) {
            return OUT_OF_RANGE;
        }
        int at = entries.start(object) + n / 8;
        int bit = 1 << (7 - n % 8);
        int held = memory.get(at);
        if (act == 0) {
            return (held & bit) != 0 ? 1 : 0;
        }
        memory.set(at, act == 1 ? held | bit : held & ~bit);
        return 1;
    }

    public int property(int object, int n) {
        int refusal = refuse(object, n, 1);
        if (refusal != 0) {
            return refusal;
        }
        if (!findProperty(object, n)) {
            return memory.word(defaultAt(n));
        }
        switch (properties.size()) {
            case 1:
                return memory.get(properties.data());
            case 2:
                return memory.word(properties.data());
            default:
                return NOT_IN_STATE;
        }
    }

    public int put(int object, int n, int v) {
        int refusal = refuse(object, n, 1);
        if (refusal != 0) {
            return refusal;
        }
        if (!findProperty(object, n)) {
            return NOT_IN_STATE;
        }
        switch (properties.size()) {
            case 1:
                memory.set(properties.data(), v);
                return 1;
            case 2:
                memory.setWord(properties.data(), v);
                return 1;
            default:
                return NOT_IN_STATE;
        }
    }

    public int next(int object, int n) {
        int refusal = refuse(object, n, 0);
        if (refusal != 0) {
            return refusal;
        }
        properties.begin(entries.table(object));
        if (n != 0 && !properties.find(n)) {
            return NOT_IN_STATE;
        }
        return properties.advance() ? properties.number() : 0;
    }

    public int address(int object, int n) {
        int refusal = refuse(object, n, 1);
        if (refusal != 0) {
            return refusal;
        }
        return findProperty(object, n) ? properties.data() : 0;
    }

    public int length(int address) {
        if (address < 0 || address > MEMORY_SIZE) {
            return OUT_OF_RANGE;
        }
        return address == 0 ? 0 : properties.sizeByLastByte(memory.get(address - 1));
    }

    public int fallback(int n, int v) {
        if (n < 1 || n > defaults) {
            return OUT_OF_RANGE;
        }
        int before = memory.word(defaultAt(n));
        memory.setWord(defaultAt(n), v);
        return before;
    }

    public int name(int object, int i) {
        if (!entries.has(object)) {
            return UNKNOWN;
        }
        int size = speller.spell(entries.table(object));
        return i >= 0 && i < size ? speller.byteAt(i) : OUT_OF_RANGE;
    }

    public int named(int object) {
        return entries.has(object) ? speller.spell(entries.table(object)) : UNKNOWN;
    }

    public int within(int object, int k) {
        if (!entries.has(object)) {
            return UNKNOWN;
        }
        return k < 0 ? OUT_OF_RANGE : tree.met(object, k);
    }

    public int judge() {
        int found = 0;
        for (int object = 1; object <= entries.size(); object++) {
            found += Integer.bitCount(faults.of(object));
        }
        return found;
    }

    public int ring(int i) {
        if (i < 0) {
            return OUT_OF_RANGE;
        }
        int left = i;
        for (int object = 1; object <= entries.size(); object++) {
            int found = faults.of(object);
            int many = Integer.bitCount(found);
            if (left < many) {
                return 16 * object + Faults.code(found, left);
            }
            left -= many;
        }
        return OUT_OF_RANGE;
    }

    private int linkOf(int object, int link) {
        if (object == 0) {
            return 0;
        }
        return entries.has(object) ? entries.link(object, link) : UNKNOWN;
    }

    /** The answer to a call on property n of an object that is not to be carried out, or 0. */
    private int refuse(int object, int n, int lowest) {
        if (!entries.has(object)) {
            return UNKNOWN;
        }
        return n < lowest || n > defaults ? OUT_OF_RANGE : 0;
    }

    private boolean findProperty(int object, int n) {
        properties.begin(entries.table(object));
        return properties.find(n);
    }

    private static int defaultAt(int n) {
        return DEFAULTS_AT + 2 * (n - 1);
    }

    /** Addresses are made from bytes that anybody may have written, so every one of them is allowed here. */
    private static final class Memory {
        private final byte[] bytes = new byte[MEMORY_SIZE];

        boolean has(int at) {
            return at >= 0 && at < MEMORY_SIZE;
        }

        int get(int at) {
            return at >= 0 && at < MEMORY_SIZE ? bytes[at] & 255 : 0;
        }

        void set(int at, int value) {
            if (at >= 0 && at < MEMORY_SIZE) {
                bytes[at] = (byte) value;
            }
        }

        int word(int at) {
            return 256 * get(at) + get(at + 1);
        }

        void setWord(int at, int value) {
            set(at, value >> 8);
            set(at + 1, value);
        }
    }

    /** The entries of the objects, in the width of the version. */
    private static final class Entries {
        private final Memory memory;
        private final boolean wide;
        private final int first;
        private final int attributeBytes;
        private final int linkBytes;
        private final int entryBytes;
        private int size;

        Entries(Memory memory, boolean wide, int first) {
            this.memory = memory;
            this.wide = wide;
            this.first = first;
            attributeBytes = wide ? 6 : 4;
            linkBytes = wide ? 2 : 1;
            entryBytes = attributeBytes + 3 * linkBytes + 2;
            size = 0;
        }

        int size() {
            return size;
        }

        boolean isFull() {
            return size >= MOST_OBJECTS;
        }

        boolean has(int object) {
            return object >= 1 && object <= size;
        }

        int attributes() {
            return 8 * attributeBytes;
        }

        int start(int object) {
            return first + entryBytes * (object - 1);
        }

        void add(int table) {
            size++;
            int at = start(size);
            // The bytes may have been written over before the object came.
            for (int i = 0; i < entryBytes; i++) {
                memory.set(at + i, 0);
            }
            memory.setWord(tableAt(size), table);
        }

        int table(int object) {
            return memory.word(tableAt(object));
        }

        int link(int object, int link) {
            int at = linkAt(object, link);
            return wide ? memory.word(at) : memory.get(at);
        }

        void setLink(int object, int link, int to) {
            int at = linkAt(object, link);
            if (wide) {
                memory.setWord(at, to);
            } else {
                memory.set(at, to);
            }
        }

        /** Whether an object is from, or is come to from there along links of one kind. */
        boolean comesTo(int from, int link, int object) {
            int at = from;
            for (int i = 0; i <= MOST_OBJECTS && has(at); i++) {
                if (at == object) {
                    return true;
                }
                at = link(at, link);
            }
            return false;
        }

        boolean isInRowOf(int parent, int object) {
            return comesTo(link(parent, CHILD), SIBLING, object);
        }

        private int linkAt(int object, int link) {
            return start(object) + attributeBytes + link * linkBytes;
        }

        private int tableAt(int object) {
            return start(object) + entryBytes - 2;
        }
    }

    /** What is done to links of several objects at once, and the walk over what is within one. */
    private static final class Tree {
        private final Entries entries;
        private final int[] open;
        private final boolean[] isMet;

        Tree(Entries entries) {
            this.entries = entries;
            open = new int[MOST_OBJECTS];
            isMet = new boolean[MOST_OBJECTS + 1];
        }

        boolean canLeave(int object) {
            int parent = entries.link(object, PARENT);
            return parent == 0 || (entries.has(parent) && entries.isInRowOf(parent, object));
        }

        void leave(int object) {
            int parent = entries.link(object, PARENT);
            if (entries.has(parent)) {
                takeOut(parent, object);
            }
            entries.setLink(object, PARENT, 0);
            entries.setLink(object, SIBLING, 0);
        }

        void enter(int object, int parent) {
            entries.setLink(object, SIBLING, entries.link(parent, CHILD));
            entries.setLink(object, PARENT, parent);
            entries.setLink(parent, CHILD, object);
        }

        /** The k-th object within root, or 0. An own stack stands for the recursion, which could go 100 deep. */
        int met(int root, int k) {
            forgetMet();
            int many = 0;
            int depth = 0;
            int at = root;
            // An object is entered once and left once.
            for (int step = 0; step <= 2 * MOST_OBJECTS; step++) {
                if (entries.has(at) && !isMet[at] && depth < MOST_OBJECTS) {
                    if (many == k) {
                        return at;
                    }
                    many++;
                    isMet[at] = true;
                    open[depth] = at;
                    depth++;
                    at = entries.link(at, CHILD);
                } else {
                    depth--;
                    // The root's own siblings are not within it.
                    if (depth <= 0) {
                        return 0;
                    }
                    at = entries.link(open[depth], SIBLING);
                }
            }
            return 0;
        }

        private void forgetMet() {
            for (int i = 0; i < isMet.length; i++) {
                isMet[i] = false;
            }
        }

        private void takeOut(int parent, int object) {
            int behind = entries.link(object, SIBLING);
            int at = entries.link(parent, CHILD);
            if (at == object) {
                entries.setLink(parent, CHILD, behind);
                return;
            }
            for (int i = 0; i < MOST_OBJECTS && entries.has(at); i++) {
                int following = entries.link(at, SIBLING);
                if (following == object) {
                    entries.setLink(at, SIBLING, behind);
                    return;
                }
                at = following;
            }
        }
    }

    /** Goes over the properties of a table, one at a time. */
    private static final class PropertyRow {
        private final Memory memory;
        private final boolean wide;
        private int at;
        private int number;
        private int size;
        private int data;

        PropertyRow(Memory memory, boolean wide) {
            this.memory = memory;
            this.wide = wide;
        }

        void begin(int table) {
            at = table + 1 + 2 * memory.get(table);
        }

        /** To the next property, unless the row ends; it ends beyond the memory too, where bytes are 0. */
        boolean advance() {
            int head = memory.get(at);
            if (head == 0) {
                return false;
            }
            boolean hasSizeByte = wide && head >= 128;
            number = wide ? head % 64 : head % 32;
            data = hasSizeByte ? at + 2 : at + 1;
            // Behind a first byte the second one tells the size even if its own bit 7 was written over.
            size = sizeByLastByte(hasSizeByte ? memory.get(at + 1) | 128 : head);
            at = data + size;
            return true;
        }

        boolean find(int wanted) {
            for (int i = 0; i < MEMORY_SIZE && advance(); i++) {
                if (number == wanted) {
                    return true;
                }
            }
            return false;
        }

        /** The size that the byte before a property's data tells, whichever form it seems to have. */
        int sizeByLastByte(int last) {
            if (!wide) {
                return last / 32 + 1;
            }
            if (last < 128) {
                return last >= 64 ? 2 : 1;
            }
            return last % 64 == 0 ? 64 : last % 64;
        }

        int number() {
            return number;
        }

        int size() {
            return size;
        }

        int data() {
            return data;
        }
    }

    /** The signs of 5 bits in a row of words, one at a time. */
    private static final class Signs {
        private static final int NONE = -1;

        private final Memory memory;
        private int at;
        private int wordsLeft;
        private int word;
        private int signsLeft;

        Signs(Memory memory) {
            this.memory = memory;
        }

        void begin(int address, int words) {
            at = address;
            wordsLeft = words;
            word = 0;
            signsLeft = 0;
        }

        int take() {
            if (signsLeft == 0 && wordsLeft <= 0) {
                return NONE;
            }
            if (signsLeft == 0) {
                word = memory.word(at);
                at += 2;
                boolean isLast = word >= 32768;
                wordsLeft = isLast ? 0 : wordsLeft - 1;
                signsLeft = 3;
            }
            signsLeft--;
            return (word >> (5 * signsLeft)) & 31;
        }
    }

    /** Reads names; an abbreviation is read by a second row of signs, behind which the first one goes on. */
    private static final class Speller {
        // 255 words of a name could call 382 abbreviations, each of all the memory's 6144 signs.
        private static final int MOST_SIGNS = 3000000;
        private static final int OWN_SIGN = 6;
        private static final int LINE_END = 13;
        private static final String THIRD = "0123456789.,!?_#'\"/\\-:()";
        private static final String THIRD_OF_VERSION_1 = "0123456789.,!?_#'\"/\\<-:()";

        private final Memory memory;
        private final int version;
        private final Signs ofName;
        private final Signs ofAbbreviation;
        private final byte[] text;
        private int size;
        private Signs signs;
        private int atHand;
        private int atHandOfName;
        private int alphabet;

        Speller(Memory memory, int version) {
            this.memory = memory;
            this.version = version;
            ofName = new Signs(memory);
            ofAbbreviation = new Signs(memory);
            signs = ofName;
            text = new byte[MOST_NAME_BYTES];
        }

        int byteAt(int i) {
            return i >= 0 && i < size ? text[i] & 255 : 0;
        }

        /** Reads the name of a table: how many bytes it has. */
        int spell(int table) {
            size = 0;
            ofName.begin(table + 1, memory.get(table));
            read(ofName, 0);
            for (int i = 0; i < MOST_SIGNS && size < MOST_NAME_BYTES; i++) {
                int sign = signs.take();
                if (sign != Signs.NONE) {
                    heed(sign);
                } else if (signs == ofAbbreviation) {
                    read(ofName, atHandOfName);
                } else {
                    break;
                }
            }
            return size;
        }

        private void read(Signs from, int which) {
            signs = from;
            useAlphabet(which);
        }

        private void useAlphabet(int which) {
            atHand = which;
            alphabet = which;
        }

        private void heed(int sign) {
            int by = alphabet;
            // A shift is used up by the sign behind it, whatever that is.
            alphabet = atHand;
            if (sign == 0) {
                say(' ');
            } else if (sign == 1 && version == 1) {
                say(LINE_END);
            } else if (sign == 1 || (sign <= 3 && version >= 3)) {
                abbreviate(sign);
            } else if (sign <= 5) {
                shift(sign);
            } else if (by == 2 && sign == OWN_SIGN) {
                sayOwn();
            } else {
                say(letter(by, sign));
            }
        }

        private void shift(int sign) {
            if (version >= 3) {
                alphabet = sign - 3;
            } else if (sign <= 3) {
                alphabet = (atHand + sign - 1) % 3;
            } else {
                useAlphabet((atHand + sign - 3) % 3);
            }
        }

        private void abbreviate(int sign) {
            int which = signs.take();
            if (which == Signs.NONE) {
                return;
            }
            if (signs == ofAbbreviation) {
                say('?');
                return;
            }
            int entry = ABBREVIATIONS_AT + 2 * (32 * (sign - 1) + which);
            int address = 2 * memory.word(entry) % 65536;
            ofAbbreviation.begin(address, (MEMORY_SIZE - address) / 2);
            atHandOfName = atHand;
            read(ofAbbreviation, 0);
        }

        private void sayOwn() {
            int higher = signs.take();
            int lower = signs.take();
            if (higher != Signs.NONE && lower != Signs.NONE) {
                say(32 * higher + lower);
            }
        }

        private int letter(int by, int sign) {
            if (by == 0) {
                return 'a' + sign - 6;
            }
            if (by == 1) {
                return 'A' + sign - 6;
            }
            if (version == 1) {
                return charIn(THIRD_OF_VERSION_1, sign - 7);
            }
            return sign == 7 ? LINE_END : charIn(THIRD, sign - 8);
        }

        private static int charIn(String signs, int i) {
            return i >= 0 && i < signs.length() ? signs.charAt(i) : 0;
        }

        private void say(int value) {
            if (size < MOST_NAME_BYTES) {
                text[size] = (byte) value;
                size++;
            }
        }
    }

    /** The judge of the tables; an object's faults are the bits of one number, bit c for code c. */
    private static final class Faults {
        private final Entries entries;
        private final PropertyRow properties;

        Faults(Entries entries, PropertyRow properties) {
            this.entries = entries;
            this.properties = properties;
        }

        /** The code of the i-th of the faults found. */
        static int code(int found, int i) {
            int left = i;
            for (int code = 1; code <= FAULT_CODES; code++) {
                if ((found >> code & 1) != 0) {
                    if (left == 0) {
                        return code;
                    }
                    left--;
                }
            }
            return 0;
        }

        int of(int object) {
            int parent = entries.link(object, PARENT);
            int sibling = entries.link(object, SIBLING);
            int child = entries.link(object, CHILD);
            return fault(1, isStray(parent))
                    | fault(2, isStray(sibling))
                    | fault(3, isStray(child))
                    | fault(4, entries.comesTo(parent, PARENT, object))
                    | fault(5, entries.comesTo(sibling, SIBLING, object))
                    | fault(6, entries.has(parent) && !entries.isInRowOf(parent, object))
                    | fault(7, entries.has(child) && entries.link(child, PARENT) != object)
                    | fault(8, sibling != 0 && parent == 0)
                    | fault(9, isOutOfOrder(entries.table(object)))
                    | fault(10, sharesTable(object));
        }

        private static int fault(int code, boolean is) {
            return is ? 1 << code : 0;
        }

        private boolean isStray(int link) {
            return link != 0 && !entries.has(link);
        }

        private boolean isOutOfOrder(int table) {
            properties.begin(table);
            int before = 64;
            for (int i = 0; i < MEMORY_SIZE && properties.advance(); i++) {
                if (properties.number() >= before) {
                    return true;
                }
                before = properties.number();
            }
            return false;
        }

        private boolean sharesTable(int object) {
            int table = entries.table(object);
            for (int other = 1; other < object; other++) {
                if (entries.table(other) == table) {
                    return true;
                }
            }
            return false;
        }
    }
}
