import java.util.ArrayList;
import java.util.Collections;
import java.util.HashSet;
import java.util.LinkedHashSet;
import java.util.List;
import java.util.Set;

/** The document once more, told with lists, sets and recursion, so that slips of either telling show. */
final class Model {
    private final int version;
    private final int[] m = new int[70000];
    private final List<Integer> row = new ArrayList<>();
    private int top = 1792;
    private int n;
    private boolean strict;

    Model(int version) {
        this.version = version < 1 ? 1 : version > 8 ? 8 : version;
    }

    private boolean wide() {
        return version > 3;
    }

    private int d() {
        return wide() ? 63 : 31;
    }

    private boolean is(int object) {
        return object > 0 && object <= n;
    }

    private int word(int a) {
        return m[a] << 8 | m[a + 1];
    }

    private void write(int a, int v) {
        if (a < 4096) {
            m[a] = v & 255;
        }
    }

    private void writeWord(int a, int v) {
        write(a, v >>> 8);
        write(a + 1, v);
    }

    private int entry(int object) {
        return 256 + 2 * d() + (wide() ? 14 : 9) * (object - 1);
    }

    /** 0 the parent, 1 the sibling, 2 the child. */
    private int get(int object, int which) {
        return wide() ? word(entry(object) + 6 + 2 * which) : m[entry(object) + 4 + which];
    }

    private void set(int object, int which, int to) {
        if (wide()) {
            writeWord(entry(object) + 6 + 2 * which, to);
        } else {
            write(entry(object) + 4 + which, to);
        }
    }

    private int table(int object) {
        return word(entry(object) + (wide() ? 12 : 7));
    }

    /** The objects that going along links from an object comes to. */
    private Set<Integer> along(int object, int which) {
        Set<Integer> found = new LinkedHashSet<>();
        int at = get(object, which);
        for (int i = 0; i < 100 && is(at); i++) {
            found.add(at);
            at = get(at, which);
        }
        return found;
    }

    private Set<Integer> andAlong(int object, int which) {
        Set<Integer> found = new LinkedHashSet<>();
        if (is(object)) {
            found.add(object);
            found.addAll(along(object, which));
        }
        return found;
    }

    int type(long w, int many) {
        if (many < 0 || many > 8) {
            return -2;
        }
        if (many == 0) {
            row.clear();
            return 0;
        }
        if (row.size() + many > 250) {
            return -4;
        }
        List<Integer> bytes = new ArrayList<>();
        for (int i = 0; i < many; i++) {
            bytes.add((int) (w & 255));
            w >>= 8;
        }
        Collections.reverse(bytes);
        row.addAll(bytes);
        return row.size();
    }

    int object() {
        if (n == 100 || top + row.size() > 4096) {
            return -4;
        }
        n++;
        for (int i = 0; i < (wide() ? 12 : 7); i++) {
            m[entry(n) + i] = 0;
        }
        writeWord(entry(n) + (wide() ? 12 : 7), top);
        for (int b : row) {
            m[top++] = b;
        }
        row.clear();
        return n;
    }

    int count() {
        return n;
    }

    int peek(int a) {
        return a < 0 || a > 4095 ? -2 : m[a];
    }

    int poke(int a, int v) {
        int was = peek(a);
        if (was >= 0) {
            write(a, v);
        }
        return was;
    }

    int strict(boolean is) {
        int was = strict ? 1 : 0;
        strict = is;
        return was;
    }

    int link(int object, int which) {
        return object == 0 ? 0 : is(object) ? get(object, which) : -1;
    }

    private boolean stuck(int object) {
        int parent = get(object, 0);
        return parent != 0 && !(is(parent) && andAlong(get(parent, 2), 1).contains(object));
    }

    int remove(int object) {
        if (!is(object)) {
            return -1;
        }
        if (stuck(object)) {
            return -3;
        }
        int parent = get(object, 0);
        int behind = get(object, 1);
        if (parent != 0 && get(parent, 2) == object) {
            set(parent, 2, behind);
        } else if (parent != 0) {
            for (int before : andAlong(get(parent, 2), 1)) {
                if (get(before, 1) == object) {
                    set(before, 1, behind);
                    break;
                }
            }
        }
        set(object, 0, 0);
        set(object, 1, 0);
        return 1;
    }

    int move(int object, int to) {
        if (!is(object) || !is(to)) {
            return -1;
        }
        if (strict && andAlong(to, 0).contains(object)) {
            return -3;
        }
        int left = remove(object);
        if (left == 1) {
            int was = get(to, 2);
            set(to, 2, object);
            set(object, 0, to);
            set(object, 1, was);
        }
        return left;
    }

    int attribute(int object, int k, int act) {
        if (!is(object)) {
            return -1;
        }
        if (k < 0 || k > (wide() ? 47 : 31) || act < 0 || act > 2) {
            return -2;
        }
        int a = entry(object) + k / 8;
        int bit = 0x80 >> k % 8;
        if (act == 0) {
            return (m[a] & bit) == 0 ? 0 : 1;
        }
        m[a] = act == 1 ? m[a] | bit : m[a] & (255 - bit);
        return 1;
    }

    /** Number, SIZE and address of each property. */
    private List<int[]> properties(int object) {
        List<int[]> found = new ArrayList<>();
        int a = table(object);
        a += 1 + 2 * m[a];
        while (a < 4096 && m[a] != 0) {
            int b = m[a++];
            int size;
            if (!wide()) {
                size = b / 32 + 1;
            } else if (b < 64) {
                size = 1;
            } else if (b < 128) {
                size = 2;
            } else {
                size = m[a++] % 64;
                size = size == 0 ? 64 : size;
            }
            found.add(new int[] {b % (wide() ? 64 : 32), size, a});
            a += size;
        }
        return found;
    }

    private int indexOf(List<int[]> properties, int k) {
        for (int i = 0; i < properties.size(); i++) {
            if (properties.get(i)[0] == k) {
                return i;
            }
        }
        return -1;
    }

    int property(int object, int k) {
        if (!is(object) || k < 1 || k > d()) {
            return is(object) ? -2 : -1;
        }
        List<int[]> all = properties(object);
        int i = indexOf(all, k);
        if (i < 0) {
            return word(254 + 2 * k);
        }
        int[] p = all.get(i);
        return p[1] == 1 ? m[p[2]] : p[1] == 2 ? word(p[2]) : -3;
    }

    int put(int object, int k, int v) {
        if (!is(object) || k < 1 || k > d()) {
            return is(object) ? -2 : -1;
        }
        List<int[]> all = properties(object);
        int i = indexOf(all, k);
        if (i < 0 || all.get(i)[1] > 2) {
            return -3;
        }
        if (all.get(i)[1] == 1) {
            write(all.get(i)[2], v);
        } else {
            writeWord(all.get(i)[2], v);
        }
        return 1;
    }

    int next(int object, int k) {
        if (!is(object) || k < 0 || k > d()) {
            return is(object) ? -2 : -1;
        }
        List<int[]> all = properties(object);
        int i = k == 0 ? -1 : indexOf(all, k);
        if (k != 0 && i < 0) {
            return -3;
        }
        return i + 1 < all.size() ? all.get(i + 1)[0] : 0;
    }

    int address(int object, int k) {
        if (!is(object) || k < 1 || k > d()) {
            return is(object) ? -2 : -1;
        }
        int i = indexOf(properties(object), k);
        return i < 0 ? 0 : properties(object).get(i)[2];
    }

    int length(int a) {
        if (a <= 0 || a > 4096) {
            return a == 0 ? 0 : -2;
        }
        int b = m[a - 1];
        if (!wide()) {
            return 1 + (b >> 5);
        }
        return b < 64 ? 1 : b < 128 ? 2 : (b & 63) == 0 ? 64 : b & 63;
    }

    int fallback(int k, int v) {
        if (k < 1 || k > d()) {
            return -2;
        }
        int was = word(254 + 2 * k);
        writeWord(254 + 2 * k, v);
        return was;
    }

    private List<Integer> signs(int a, int words) {
        List<Integer> signs = new ArrayList<>();
        for (int i = 0; i < words; i++) {
            int w = word(a + 2 * i);
            Collections.addAll(signs, w >> 10 & 31, w >> 5 & 31, w & 31);
            if (w >> 15 == 1) {
                break;
            }
        }
        return signs;
    }

    private String read(List<Integer> s, boolean inner) {
        StringBuilder text = new StringBuilder();
        int hand = 0;
        int now = 0;
        for (int i = 0; i < s.size(); i++) {
            int sign = s.get(i);
            int by = now;
            now = hand;
            if (sign == 0) {
                text.append(' ');
            } else if (sign > 5) {
                if (by == 2 && sign == 6) {
                    if (i + 2 < s.size()) {
                        text.append((char) (s.get(i + 1) * 32 + s.get(i + 2) & 255));
                    }
                    i += 2;
                } else {
                    text.append(letter(by, sign));
                }
            } else if (version == 1 && sign == 1) {
                text.append('\r');
            } else if (version == 2 && sign == 1 || version > 2 && sign < 4) {
                i++;
                if (i < s.size()) {
                    text.append(inner ? "?" : abbreviation(32 * (sign - 1) + s.get(i)));
                }
            } else if (version > 2) {
                now = sign == 4 ? 1 : 2;
            } else {
                int to = (hand + (sign % 2 == 0 ? 1 : 2)) % 3;
                now = to;
                hand = sign > 3 ? to : hand;
            }
        }
        return text.toString();
    }

    private String letter(int by, int sign) {
        String[] alphabets = {
            "abcdefghijklmnopqrstuvwxyz",
            "ABCDEFGHIJKLMNOPQRSTUVWXYZ",
            version == 1 ? " 0123456789.,!?_#'\"/\\<-:()" : " \r0123456789.,!?_#'\"/\\-:()",
        };
        return alphabets[by].substring(sign - 6, sign - 5);
    }

    private String abbreviation(int k) {
        int a = word(64 + 2 * k) * 2 & 65535;
        return read(signs(a, Math.max(0, 4096 - a) / 2), true);
    }

    private String nameOf(int object) {
        int a = table(object);
        String all = read(signs(a + 1, m[a]), false);
        return all.substring(0, Math.min(250, all.length()));
    }

    int name(int object, int i) {
        if (!is(object)) {
            return -1;
        }
        String name = nameOf(object);
        return i < 0 || i >= name.length() ? -2 : name.charAt(i);
    }

    int named(int object) {
        return is(object) ? nameOf(object).length() : -1;
    }

    private void visit(int object, Set<Integer> met) {
        met.add(object);
        for (int at = get(object, 2); is(at) && !met.contains(at); at = get(at, 1)) {
            visit(at, met);
        }
    }

    int within(int object, int k) {
        if (!is(object) || k < 0) {
            return is(object) ? -2 : -1;
        }
        Set<Integer> met = new LinkedHashSet<>();
        visit(object, met);
        return k < met.size() ? new ArrayList<>(met).get(k) : 0;
    }

    private List<Integer> faults() {
        List<Integer> found = new ArrayList<>();
        Set<Integer> tables = new HashSet<>();
        for (int o = 1; o <= n; o++) {
            int parent = get(o, 0);
            int sibling = get(o, 1);
            int child = get(o, 2);
            boolean[] fault = new boolean[11];
            fault[1] = parent != 0 && !is(parent);
            fault[2] = sibling != 0 && !is(sibling);
            fault[3] = child != 0 && !is(child);
            fault[4] = along(o, 0).contains(o);
            fault[5] = along(o, 1).contains(o);
            fault[6] = is(parent) && !andAlong(get(parent, 2), 1).contains(o);
            fault[7] = is(child) && get(child, 0) != o;
            fault[8] = sibling != 0 && parent == 0;
            List<int[]> all = properties(o);
            for (int i = 1; i < all.size(); i++) {
                fault[9] |= all.get(i)[0] >= all.get(i - 1)[0];
            }
            fault[10] = !tables.add(table(o));
            for (int code = 1; code <= 10; code++) {
                if (fault[code]) {
                    found.add(16 * o + code);
                }
            }
        }
        return found;
    }

    int judge() {
        return faults().size();
    }

    int ring(int i) {
        List<Integer> found = faults();
        return i < 0 || i >= found.size() ? -2 : found.get(i);
    }
}
