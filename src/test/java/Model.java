import java.util.ArrayList;
import java.util.Collections;
import java.util.List;
import java.util.NoSuchElementException;

/**
 * The document once more, sentence by sentence and with the Java library, to compare with: slow,
 * and made apart from the program.
 */
final class Model {
    /** An object that was found, with the words that are its own. */
    private record Thing(
            boolean isStruct, int kind, long n, long d, long p, int segment, long begin, long depth,
            long cost) {}

    private record Place(int segment, long begin, long pointer) {}

    private final List<List<Long>> segments = new ArrayList<>();
    private final List<Thing> handles = new ArrayList<>();
    private long budget = 63;
    private long left = 0;
    private List<Long> form = null;
    private List<Long> kept = null;

    Model() {
        for (int s = 0; s < 4; s++) {
            segments.add(new ArrayList<>());
        }
    }

    long add(int segment, long word) {
        if (segment < 0 || segment > 3 || segments.get(segment).size() == 64) {
            return -1;
        }
        segments.get(segment).add(word);
        handles.clear();
        return segments.get(segment).size() - 1;
    }

    boolean change(int segment, int i, long word) {
        if (!isWord(segment, i)) {
            return false;
        }
        segments.get(segment).set(i, word);
        handles.clear();
        return true;
    }

    boolean cut(int segment, int n) {
        if (segment < 0 || segment > 3 || n < 0 || n > segments.get(segment).size()) {
            return false;
        }
        segments.set(segment, new ArrayList<>(segments.get(segment).subList(0, n)));
        handles.clear();
        return true;
    }

    long words(int segment) {
        return segment < 0 || segment > 3 ? -1 : segments.get(segment).size();
    }

    long word(int segment, int i) {
        return isWord(segment, i) ? segments.get(segment).get(i) : 0;
    }

    boolean budget(int words) {
        if (words < 0 || words > 63) {
            return false;
        }
        budget = words;
        return true;
    }

    long open() {
        Thing root = root(budget);
        handles.clear();
        handles.add(root);
        left = budget - root.cost;
        return root.d + root.p;
    }

    long left() {
        return handles.isEmpty() ? 0 : left;
    }

    long go(int handle, int k) {
        Thing t = handle(handle);
        if (!t.isStruct && t.kind != 6) {
            throw new UnsupportedOperationException();
        }
        if (k < 0 || (!t.isStruct && k >= t.n)) {
            throw new IndexOutOfBoundsException();
        }
        if (t.isStruct && k >= t.p) {
            return -1;
        }
        long i = t.begin + t.d + k;
        if (wordAt(t.segment, i) == 0) {
            return -1;
        }
        if (handles.size() == 16) {
            throw new IllegalStateException();
        }
        Thing found = find(t.segment, i, t.depth + 1, left);
        left -= found.cost;
        handles.add(found);
        return handles.size() - 1;
    }

    long element(int handle, int k) {
        Thing t = handle(handle);
        if (t.isStruct || t.kind != 7) {
            throw new UnsupportedOperationException();
        }
        if (k < 0 || k >= t.n) {
            throw new IndexOutOfBoundsException();
        }
        if (handles.size() == 16) {
            throw new IllegalStateException();
        }
        handles.add(elementOf(t, k));
        return handles.size() - 1;
    }

    long about(int handle, int part) {
        Thing t = handle(handle);
        boolean ofStructs = !t.isStruct && t.kind == 7;
        return switch (part) {
            case 0 -> t.isStruct ? 0 : t.kind + 1;
            case 1 -> t.isStruct ? t.d : t.n;
            case 2 -> t.isStruct || ofStructs ? t.p : 0;
            case 3 -> ofStructs ? t.d : 0;
            case 4 -> t.segment;
            case 5 -> t.begin;
            case 6 -> t.depth;
            default -> throw new IndexOutOfBoundsException();
        };
    }

    long data(int handle, int k) {
        Thing t = handle(handle);
        if (!t.isStruct && t.kind > 5) {
            throw new UnsupportedOperationException();
        }
        if (k < 0 || (!t.isStruct && k >= t.n)) {
            throw new IndexOutOfBoundsException();
        }
        if (t.isStruct) {
            return k < t.d ? wordAt(t.segment, t.begin + k) : 0;
        }
        int bits = bitsOf(t.kind);
        long value = 0;
        for (int b = bits - 1; b >= 0; b--) {
            long bit = (long) k * bits + b;
            value = 2 * value + field(wordAt(t.segment, t.begin + bit / 64), (int) (bit % 64), 1);
        }
        return value;
    }

    long form() {
        Thing root = root(budget);
        List<Long> made = new ArrayList<>();
        made.add(0L);
        long[] rest = {budget - root.cost};
        write(made, 0, root, rest);
        form = made;
        return form.size();
    }

    long formed(int i) {
        return form != null && i >= 0 && i < form.size() ? form.get(i) : 0;
    }

    boolean adopt() {
        if (form == null) {
            return false;
        }
        segments.clear();
        segments.add(new ArrayList<>(form));
        for (int s = 1; s < 4; s++) {
            segments.add(new ArrayList<>());
        }
        handles.clear();
        return true;
    }

    boolean keep() {
        if (form == null) {
            return false;
        }
        kept = form;
        return true;
    }

    boolean same() {
        return form != null && form.equals(kept);
    }

    int handleCount() {
        return handles.size();
    }

    private Thing handle(int handle) {
        if (handle < 0 || handle >= handles.size()) {
            throw new NoSuchElementException();
        }
        return handles.get(handle);
    }

    private boolean isWord(long segment, long i) {
        return segment >= 0 && segment < 4 && i >= 0 && i < segments.get((int) segment).size();
    }

    private long wordAt(int segment, long i) {
        return segments.get(segment).get((int) i);
    }

    private static long field(long word, int first, int count) {
        long shifted = word >>> first;
        return Long.remainderUnsigned(shifted, 1L << count);
    }

    private static long signed(long word, int first, int count) {
        long value = field(word, first, count);
        return value >= 1L << (count - 1) ? value - (1L << count) : value;
    }

    private static int bitsOf(int kind) {
        return List.of(0, 1, 8, 16, 32, 64, 64).get(kind);
    }

    private Thing root(long rest) {
        if (segments.get(0).isEmpty()) {
            throw new IndexOutOfBoundsException();
        }
        if (segments.get(0).get(0) == 0) {
            throw new NoSuchElementException();
        }
        Thing root = looked(place(0, 0), 1);
        if (!root.isStruct) {
            throw new IllegalArgumentException();
        }
        return within(root, rest);
    }

    private Thing find(int segment, long i, long depth, long rest) {
        return within(looked(place(segment, i), depth), rest);
    }

    private Thing within(Thing t, long rest) {
        if (t.depth > 8) {
            throw new IllegalStateException();
        }
        if (t.cost > rest) {
            throw new IllegalStateException();
        }
        return t;
    }

    private Place place(int segment, long i) {
        long word = wordAt(segment, i);
        if (field(word, 0, 2) == 3) {
            throw new IllegalArgumentException();
        }
        if (field(word, 0, 2) < 2) {
            return new Place(segment, i + 1 + signed(word, 2, 30), word);
        }
        long padSegment = field(word, 32, 32);
        long pad = field(word, 3, 29);
        boolean two = field(word, 2, 1) == 1;
        if (!isWord(padSegment, pad) || (two && !isWord(padSegment, pad + 1))) {
            throw new IndexOutOfBoundsException();
        }
        long tells = wordAt((int) padSegment, two ? pad + 1 : pad);
        if (tells == 0 || field(tells, 0, 2) > 1) {
            throw new IllegalArgumentException();
        }
        if (!two) {
            return new Place((int) padSegment, pad + 1 + signed(tells, 2, 30), tells);
        }
        long where = wordAt((int) padSegment, pad);
        if (field(where, 0, 3) != 2) {
            throw new IllegalArgumentException();
        }
        long begins = field(where, 32, 32);
        return new Place(begins > 3 ? -1 : (int) begins, field(where, 3, 29), tells);
    }

    private Thing looked(Place at, long depth) {
        boolean isStruct = field(at.pointer, 0, 2) == 0;
        int kind = (int) field(at.pointer, 32, 3);
        long n = field(at.pointer, 35, 29);
        long d = field(at.pointer, 32, 16);
        long p = field(at.pointer, 48, 16);
        long size = isStruct ? d + p : kind == 7 ? n + 1 : (n * bitsOf(kind) + 63) / 64;
        if (at.segment < 0
                || at.begin < 0
                || at.begin + size > segments.get(at.segment).size()) {
            throw new IndexOutOfBoundsException();
        }
        if (isStruct) {
            return new Thing(
                    true, -1, 0, d, p, at.segment, at.begin, depth, Math.max(1, size));
        }
        if (kind < 7) {
            long cost = Math.max(1, kind == 0 ? n : size);
            return new Thing(false, kind, n, 0, 0, at.segment, at.begin, depth, cost);
        }
        long tag = wordAt(at.segment, at.begin);
        long m = field(tag, 2, 30);
        long td = field(tag, 32, 16);
        long tp = field(tag, 48, 16);
        if (field(tag, 0, 2) != 0 || m * (td + tp) > n) {
            throw new IllegalArgumentException();
        }
        long cost = Math.max(n, m) + 1;
        return new Thing(false, 7, m, td, tp, at.segment, at.begin + 1, depth, cost);
    }

    private static Thing elementOf(Thing list, long k) {
        long begin = list.begin + k * (list.d + list.p);
        return new Thing(true, -1, 0, list.d, list.p, list.segment, begin, list.depth, 0);
    }

    private long without0AtEnd(int segment, long first, long count) {
        long last = 0;
        for (long i = 0; i < count; i++) {
            if (wordAt(segment, first + i) != 0) {
                last = i + 1;
            }
        }
        return last;
    }

    private void write(List<Long> made, int at, Thing t, long[] rest) {
        int first = made.size();
        long b = field(first - at - 1, 0, 30);
        if (t.isStruct) {
            long d = without0AtEnd(t.segment, t.begin, t.d);
            long p = without0AtEnd(t.segment, t.begin + t.d, t.p);
            long offset = d + p == 0 ? (1L << 30) - 1 : b;
            made.set(at, offset * 4 + (d << 32) + (p << 48));
            made.addAll(Collections.nCopies((int) (d + p), 0L));
            writeStruct(made, first, t, d, p, rest);
        } else if (t.kind == 7) {
            long d = 0;
            long p = 0;
            for (long k = 0; k < t.n; k++) {
                Thing e = elementOf(t, k);
                d = Math.max(d, without0AtEnd(e.segment, e.begin, e.d));
                p = Math.max(p, without0AtEnd(e.segment, e.begin + e.d, e.p));
            }
            long size = t.n * (d + p);
            made.set(at, 1 + b * 4 + (7L << 32) + (size << 35));
            made.add(t.n * 4 + (d << 32) + (p << 48));
            made.addAll(Collections.nCopies((int) size, 0L));
            for (long k = 0; k < t.n; k++) {
                writeStruct(made, (int) (first + 1 + k * (d + p)), elementOf(t, k), d, p, rest);
            }
        } else if (t.kind == 6) {
            made.set(at, 1 + b * 4 + (6L << 32) + (t.n << 35));
            made.addAll(Collections.nCopies((int) t.n, 0L));
            writePointers(made, first, t, t.begin, t.n, rest);
        } else {
            made.set(at, 1 + b * 4 + ((long) t.kind << 32) + (t.n << 35));
            made.addAll(bitsOnly(t));
        }
    }

    private void writeStruct(List<Long> made, int first, Thing t, long d, long p, long[] rest) {
        for (int k = 0; k < d; k++) {
            made.set(first + k, wordAt(t.segment, t.begin + k));
        }
        writePointers(made, (int) (first + d), t, t.begin + t.d, p, rest);
    }

    private void writePointers(
            List<Long> made, int first, Thing owner, long from, long count, long[] rest) {
        for (int k = 0; k < count; k++) {
            if (wordAt(owner.segment, from + k) != 0) {
                Thing t = find(owner.segment, from + k, owner.depth + 1, rest[0]);
                rest[0] -= t.cost;
                write(made, first + k, t, rest);
            }
        }
    }

    private List<Long> bitsOnly(Thing list) {
        long bits = list.n * bitsOf(list.kind);
        List<Long> words = new ArrayList<>();
        for (long first = 0; first < bits; first += 64) {
            long word = 0;
            for (int b = 0; b < 64 && first + b < bits; b++) {
                word += field(wordAt(list.segment, list.begin + first / 64), b, 1) << b;
            }
            words.add(word);
        }
        return words;
    }
}
