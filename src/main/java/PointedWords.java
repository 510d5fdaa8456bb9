import java.util.NoSuchElementException;

/**
 * Messages that are rows of words with pointers among them: structs and lists are come to pointer
 * by pointer, within a budget and a depth, whatever the words are; and a message is written anew in
 * its one canonical form.
 */
public final class PointedWords {
    public static final int NONE = -1;

    private static final int SEGMENT_COUNT = 4;
    private static final int MOST_WORDS = 64;
    private static final int MOST_BUDGET = 63;
    private static final int MOST_HANDLES = 16;
    private static final int MOST_DEPTH = 8;

    // Shapes are what part 0 of an object tells: a list's shape is 1 more than its kind.
    private static final int STRUCT = 0;
    private static final int FIRST_LIST = 1;
    private static final int POINTER_LIST = 7;
    private static final int STRUCT_LIST = 8;

    private final Message message;
    private final Former former;
    private final Found[] handles;
    private final Found newRoot;
    private final Row latestForm;
    private final Row keptForm;
    private int handleCount;
    private int leftForHandles;
    private int wholeBudget;

    public PointedWords() {
        message = new Message();
        former = new Former();
        handles = new Found[MOST_HANDLES];
        for (int h = 0; h < MOST_HANDLES; h++) {
            handles[h] = new Found();
        }
        newRoot = new Found();
        latestForm = new Row();
        keptForm = new Row();
        handleCount = 0;
        leftForHandles = 0;
        wholeBudget = MOST_BUDGET;
    }

    public int add(int segment, long word) {
        if (!message.hasSegment(segment) || !message.row(segment).append(word)) {
            return NONE;
        }
        endHandles();
        return message.row(segment).size - 1;
    }

    public boolean change(int segment, int i, long word) {
        if (!message.hasWords(segment, i, 1)) {
            return false;
        }
        message.row(segment).put(i, word);
        endHandles();
        return true;
    }

    public boolean cut(int segment, int n) {
        if (n < 0 || !message.hasWords(segment, 0, n)) {
            return false;
        }
        message.row(segment).size = n;
        endHandles();
        return true;
    }

    public int words(int segment) {
        return message.hasSegment(segment) ? message.row(segment).size : NONE;
    }

    public long word(int segment, int i) {
        return message.at(segment, i);
    }

    public boolean budget(int words) {
        if (words < 0 || words > MOST_BUDGET) {
            return false;
        }
        wholeBudget = words;
        return true;
    }

    public int open()
            throws IndexOutOfBoundsException, NoSuchElementException, IllegalArgumentException,
                    IllegalStateException {
        // Not found into handle 0 itself, which must stay as it is when finding throws.
        int cost = message.findRoot(wholeBudget, newRoot);
        handles[0].become(newRoot);
        handleCount = 1;
        leftForHandles = wholeBudget - cost;
        return newRoot.count + newRoot.pointers;
    }

    public int left() {
        return leftForHandles;
    }

    public int go(int handle, int k)
            throws NoSuchElementException, UnsupportedOperationException, IndexOutOfBoundsException,
                    IllegalStateException, IllegalArgumentException {
        Found owner = requireHandle(handle);
        if (owner.shape != STRUCT && owner.shape != POINTER_LIST) {
            throw new UnsupportedOperationException("a list without pointers of its own");
        }
        requireElement(owner, k);
        if (k >= owner.pointerCount()) {
            return NONE;
        }
        int i = owner.firstPointer() + k;
        if (message.at(owner.segment, i) == 0) {
            return NONE;
        }
        requireFreeHandle();
        int cost = message.find(owner, i, leftForHandles, handles[handleCount]);
        leftForHandles -= cost;
        handleCount++;
        return handleCount - 1;
    }

    public int element(int handle, int k)
            throws NoSuchElementException, UnsupportedOperationException, IndexOutOfBoundsException,
                    IllegalStateException {
        Found list = requireHandle(handle);
        if (list.shape != STRUCT_LIST) {
            throw new UnsupportedOperationException("no list of structs");
        }
        requireElement(list, k);
        requireFreeHandle();
        handles[handleCount].becomeElement(list, k);
        handleCount++;
        return handleCount - 1;
    }

    public int about(int handle, int part)
            throws NoSuchElementException, IndexOutOfBoundsException {
        Found object = requireHandle(handle);
        switch (part) {
            case 0:
                return object.shape;
            case 1:
                return object.count;
            case 2:
                return object.pointers;
            case 3:
                return object.elementData;
            case 4:
                return object.segment;
            case 5:
                return object.begin;
            case 6:
                return object.depth;
            default:
                throw new IndexOutOfBoundsException("no such part");
        }
    }

    public long data(int handle, int k)
            throws NoSuchElementException, UnsupportedOperationException,
                    IndexOutOfBoundsException {
        Found object = requireHandle(handle);
        if (object.shape == POINTER_LIST || object.shape == STRUCT_LIST) {
            throw new UnsupportedOperationException("a list without data of its own");
        }
        requireElement(object, k);
        if (object.shape != STRUCT) {
            return message.flatElement(object, k);
        }
        return k < object.count ? message.at(object.segment, object.begin + k) : 0L;
    }

    public int form()
            throws IndexOutOfBoundsException, NoSuchElementException, IllegalArgumentException,
                    IllegalStateException {
        // Written apart, so that the latest form stays when finding throws halfway.
        former.writeRoot(message, wholeBudget);
        latestForm.become(former.draft);
        return latestForm.size;
    }

    public long formed(int i) {
        return latestForm.at(i);
    }

    public boolean adopt() {
        if (latestForm.size == 0) {
            return false;
        }
        message.row(0).become(latestForm);
        for (int s = 1; s < SEGMENT_COUNT; s++) {
            message.row(s).size = 0;
        }
        endHandles();
        return true;
    }

    public boolean keep() {
        if (latestForm.size == 0) {
            return false;
        }
        keptForm.become(latestForm);
        return true;
    }

    public boolean same() {
        return latestForm.size > 0 && latestForm.hasSameWords(keptForm);
    }

    private void endHandles() {
        handleCount = 0;
        leftForHandles = 0;
    }

    private Found requireHandle(int handle) {
        if (handle < 0 || handle >= handleCount) {
            throw new NoSuchElementException("no such handle");
        }
        return handles[handle];
    }

    private void requireFreeHandle() {
        if (handleCount >= MOST_HANDLES) {
            throw new IllegalStateException("all handles are in use");
        }
    }

    /** A struct is asked for words behind its end, too: only a list's number of elements binds. */
    private static void requireElement(Found object, int k) {
        if (k < 0 || (object.shape != STRUCT && k >= object.count)) {
            throw new IndexOutOfBoundsException("no such element");
        }
    }

    /** The bits of pointers and tags. */
    private static final class Bits {
        static final int TO_STRUCT = 0;
        static final int TO_LIST = 1;
        static final int TO_PAD = 2;

        private static final long LOW_HALF = 0xFFFFFFFFL;
        private static final int[] ELEMENT_BITS = {0, 1, 8, 16, 32, 64, 64};

        static int type(long word) {
            return (int) word & 3;
        }

        /** Of type 0 or 1; a null pointer has the bits of a struct pointer, but is none. */
        static boolean isStructOrList(long word) {
            return word != 0 && (word & 2) == 0;
        }

        /** The b of a pointer, with sign. */
        static int offset(long word) {
            return (int) word >> 2;
        }

        /** The m of a tag, which stands where a pointer has its b, without sign. */
        static int tagCount(long word) {
            return (int) word >>> 2;
        }

        static int dataWords(long word) {
            return (int) (word >>> 32) & 0xFFFF;
        }

        static int pointers(long word) {
            return (int) (word >>> 48);
        }

        static int listKind(long word) {
            return (int) (word >>> 32) & 7;
        }

        static int listNumber(long word) {
            return (int) (word >>> 35);
        }

        static boolean hasTwoWordPad(long word) {
            return (word & 4) != 0;
        }

        /** Bits 32 .. 63 without sign; NONE for all numbers that no segment bears. */
        static int farSegment(long word) {
            long number = word >>> 32;
            return number < SEGMENT_COUNT ? (int) number : NONE;
        }

        static int farWord(long word) {
            return (int) word >>> 3;
        }

        /** Also a tag, whose m is given as the offset. */
        static long structPointer(int offset, int dataWords, int pointers) {
            return ((long) pointers << 48)
                    | ((long) dataWords << 32)
                    | (((long) offset << 2) & LOW_HALF);
        }

        static long listPointer(int offset, int kind, int number) {
            return ((long) number << 35)
                    | ((long) kind << 32)
                    | (((long) offset << 2) & LOW_HALF)
                    | TO_LIST;
        }

        /** The bits of an element of kinds 0 .. 6. */
        static int elementBits(int kind) {
            return kind >= 0 && kind < ELEMENT_BITS.length ? ELEMENT_BITS[kind] : 0;
        }

        /** The words that n elements of so many bits need. */
        static int wordsFor(int n, int bits) {
            return (int) (((long) n * bits + 63) / 64);
        }

        /** A word of which only the lowest bits are 1. */
        static long lowest(int bits) {
            return bits >= 64 ? -1L : (1L << bits) - 1;
        }
    }

    /** A row of words: a segment of the message, or a form. */
    private static final class Row {
        private final long[] cells = new long[MOST_WORDS];
        int size = 0;

        long at(int i) {
            return i >= 0 && i < size ? cells[i] : 0L;
        }

        void put(int i, long word) {
            if (i >= 0 && i < size) {
                cells[i] = word;
            }
        }

        boolean append(long word) {
            if (size >= MOST_WORDS) {
                return false;
            }
            cells[size] = word;
            size++;
            return true;
        }

        void become(Row other) {
            System.arraycopy(other.cells, 0, cells, 0, other.size);
            size = other.size;
        }

        boolean hasSameWords(Row other) {
            if (size != other.size) {
                return false;
            }
            for (int i = 0; i < size; i++) {
                if (cells[i] != other.cells[i]) {
                    return false;
                }
            }
            return true;
        }
    }

    /** An object that was found, or what is known of it while it is being found. */
    private static final class Found {
        int shape;
        /** The data words of a struct, the elements of a list. */
        int count;
        /** The pointers of a struct, or of each element of a list of structs. */
        int pointers;
        /** The data words of each element of a list of structs. */
        int elementData;
        int segment;
        int begin;
        int depth;

        int pointerCount() {
            return shape == POINTER_LIST ? count : pointers;
        }

        int firstPointer() {
            return shape == STRUCT ? begin + count : begin;
        }

        void become(Found other) {
            shape = other.shape;
            count = other.count;
            pointers = other.pointers;
            elementData = other.elementData;
            segment = other.segment;
            begin = other.begin;
            depth = other.depth;
        }

        void becomeElement(Found list, int k) {
            shape = STRUCT;
            count = list.elementData;
            pointers = list.pointers;
            elementData = 0;
            segment = list.segment;
            begin = list.elementBegin(k);
            depth = list.depth;
        }

        int elementBegin(int k) {
            return begin + k * (elementData + pointers);
        }
    }

    /** The segments, and how objects are found in them. */
    private static final class Message {
        private final Row[] segments = new Row[SEGMENT_COUNT];

        Message() {
            for (int s = 0; s < SEGMENT_COUNT; s++) {
                segments[s] = new Row();
            }
        }

        boolean hasSegment(int segment) {
            return segment >= 0 && segment < SEGMENT_COUNT;
        }

        /** Only for a segment that there is. */
        Row row(int segment) {
            return segments[segment];
        }

        /** Whether so many words are there from the first one on; none may be at the end, too. */
        boolean hasWords(int segment, int first, int count) {
            if (segment < 0 || segment >= SEGMENT_COUNT) {
                return false;
            }
            int size = segments[segment].size;
            return first >= 0 && first <= size && count <= size - first;
        }

        long at(int segment, int i) {
            if (segment < 0 || segment >= SEGMENT_COUNT) {
                return 0L;
            }
            Row row = segments[segment];
            return i >= 0 && i < row.size ? row.cells[i] : 0L;
        }

        /** Element k of a list of kinds 0 .. 5. */
        long flatElement(Found list, int k) {
            int bits = Bits.elementBits(list.shape - FIRST_LIST);
            long firstBit = (long) k * bits;
            long word = at(list.segment, list.begin + (int) (firstBit / 64));
            return (word >>> (int) (firstBit % 64)) & Bits.lowest(bits);
        }

        /** The number of words in a stretch without those at its end that are 0. */
        int usedWords(int segment, int first, int count) {
            int used = count;
            while (used > 0 && at(segment, first + used - 1) == 0) {
                used--;
            }
            return used;
        }

        /** Finds the root: its cost. */
        int findRoot(int left, Found root) {
            if (!hasWords(0, 0, 1)) {
                throw new IndexOutOfBoundsException("there is no word for the root");
            }
            if (at(0, 0) == 0) {
                throw new NoSuchElementException("the root is null");
            }
            long pointer = locate(0, 0, root);
            int cost = measure(pointer, root);
            if (root.shape != STRUCT) {
                throw new IllegalArgumentException("the root is a list");
            }
            root.depth = 1;
            requireLimits(root, cost, left);
            return cost;
        }

        /** Finds what the pointer at word i, which is not null, of an object leads to: its cost. */
        int find(Found owner, int i, int left, Found object) {
            long pointer = locate(owner.segment, i, object);
            int cost = measure(pointer, object);
            object.depth = owner.depth + 1;
            requireLimits(object, cost, left);
            return cost;
        }

        private static void requireLimits(Found object, int cost, int left) {
            if (object.depth > MOST_DEPTH) {
                throw new IllegalStateException("too deep");
            }
            if (cost > left) {
                throw new IllegalStateException("the budget does not suffice");
            }
        }

        /** Where an object begins, if it is there: the struct or list pointer that tells it. */
        private long locate(int segment, int i, Found object) {
            long word = at(segment, i);
            if (Bits.type(word) != Bits.TO_PAD) {
                return locateNear(word, segment, i, object);
            }
            int padSegment = Bits.farSegment(word);
            int pad = Bits.farWord(word);
            boolean twoWords = Bits.hasTwoWordPad(word);
            if (!hasWords(padSegment, pad, twoWords ? 2 : 1)) {
                throw new IndexOutOfBoundsException("the pad is not there");
            }
            long padWord = at(padSegment, pad);
            if (!twoWords) {
                return locateNear(padWord, padSegment, pad, object);
            }
            return locateFar(padWord, at(padSegment, pad + 1), object);
        }

        private static long locateNear(long pointer, int segment, int i, Found object) {
            if (!Bits.isStructOrList(pointer)) {
                throw new IllegalArgumentException("no struct or list pointer");
            }
            object.segment = segment;
            object.begin = i + 1 + Bits.offset(pointer);
            return pointer;
        }

        private static long locateFar(long where, long pointer, Found object) {
            if (Bits.type(where) != Bits.TO_PAD
                    || Bits.hasTwoWordPad(where)
                    || !Bits.isStructOrList(pointer)) {
                throw new IllegalArgumentException("no pad of two words");
            }
            object.segment = Bits.farSegment(where);
            object.begin = Bits.farWord(where);
            return pointer;
        }

        /** Takes an object's measures from its pointer, its beginning being known: its cost. */
        private int measure(long pointer, Found object) {
            if (Bits.type(pointer) == Bits.TO_STRUCT) {
                return measureStruct(pointer, object);
            }
            object.shape = FIRST_LIST + Bits.listKind(pointer);
            if (object.shape == STRUCT_LIST) {
                return measureStructList(Bits.listNumber(pointer), object);
            }
            return measurePlainList(Bits.listNumber(pointer), object);
        }

        private int measureStruct(long pointer, Found struct) {
            struct.shape = STRUCT;
            struct.count = Bits.dataWords(pointer);
            struct.pointers = Bits.pointers(pointer);
            struct.elementData = 0;
            int size = struct.count + struct.pointers;
            if (!hasWords(struct.segment, struct.begin, size)) {
                throw new IndexOutOfBoundsException("a struct that is not within its segment");
            }
            return Math.max(size, 1);
        }

        private int measurePlainList(int n, Found list) {
            list.count = n;
            list.pointers = 0;
            list.elementData = 0;
            int bits = Bits.elementBits(list.shape - FIRST_LIST);
            int size = Bits.wordsFor(n, bits);
            if (!hasWords(list.segment, list.begin, size)) {
                throw new IndexOutOfBoundsException("a list that is not within its segment");
            }
            // Elements of 0 bits cost, too: else one word would stand for any number of them.
            return Math.max(bits == 0 ? n : size, 1);
        }

        private int measureStructList(int n, Found list) {
            if (!hasWords(list.segment, list.begin, n + 1)) {
                throw new IndexOutOfBoundsException("a list that is not within its segment");
            }
            long tag = at(list.segment, list.begin);
            if (Bits.type(tag) != Bits.TO_STRUCT) {
                throw new IllegalArgumentException("a tag that is none");
            }
            list.begin++;
            list.count = Bits.tagCount(tag);
            list.elementData = Bits.dataWords(tag);
            list.pointers = Bits.pointers(tag);
            if ((long) list.count * (list.elementData + list.pointers) > n) {
                throw new IllegalArgumentException("elements that need more words");
            }
            return Math.max(n, list.count) + 1;
        }
    }

    /**
     * Writes canonical forms. No object of a form has more words than were paid for it, so that a
     * form has no more than the whole budget and the word for the root.
     */
    private static final class Former {
        final Row draft = new Row();
        private int left = 0;

        /** What is being written, by depth: finding refuses the last one, but looks at it first. */
        private final Found[] levels = new Found[MOST_DEPTH + 2];

        Former() {
            for (int depth = 0; depth < levels.length; depth++) {
                levels[depth] = new Found();
            }
        }

        void writeRoot(Message from, int budget) {
            Found root = levels[1];
            left = budget - from.findRoot(budget, root);
            draft.size = 0;
            draft.append(0L);
            writeStruct(from, root, 0);
        }

        /** Goes a level deeper for each: finding throws when that would be below the last one. */
        private void writePointers(Message from, Found owner, int i, int count, int at) {
            for (int k = 0; k < count; k++) {
                if (from.at(owner.segment, i + k) != 0) {
                    Found object = levels[owner.depth + 1];
                    left -= from.find(owner, i + k, left, object);
                    writeObject(from, object, at + k);
                }
            }
        }

        private void writeObject(Message from, Found object, int at) {
            switch (object.shape) {
                case STRUCT:
                    writeStruct(from, object, at);
                    break;
                case POINTER_LIST:
                    writePointerList(from, object, at);
                    break;
                case STRUCT_LIST:
                    writeStructList(from, object, at);
                    break;
                default:
                    writeFlatList(from, object, at);
                    break;
            }
        }

        private void writeStruct(Message from, Found struct, int at) {
            int firstPointer = struct.firstPointer();
            int data = from.usedWords(struct.segment, struct.begin, struct.count);
            int pointers = from.usedWords(struct.segment, firstPointer, struct.pointers);
            int first = grow(data + pointers);
            // With b 0 the pointer to a struct without words would be a null pointer.
            int offset = data + pointers == 0 ? -1 : first - at - 1;
            draft.put(at, Bits.structPointer(offset, data, pointers));
            copyWords(from, struct, struct.begin, data, first);
            writePointers(from, struct, firstPointer, pointers, first + data);
        }

        private void writePointerList(Message from, Found list, int at) {
            int first = grow(list.count);
            int kind = POINTER_LIST - FIRST_LIST;
            draft.put(at, Bits.listPointer(first - at - 1, kind, list.count));
            writePointers(from, list, list.begin, list.count, first);
        }

        private void writeStructList(Message from, Found list, int at) {
            int data = 0;
            int pointers = 0;
            for (int k = 0; k < list.count; k++) {
                int begin = list.elementBegin(k);
                int behind = begin + list.elementData;
                data = Math.max(data, from.usedWords(list.segment, begin, list.elementData));
                pointers = Math.max(pointers, from.usedWords(list.segment, behind, list.pointers));
            }
            int size = list.count * (data + pointers);
            int tagAt = grow(1 + size);
            int kind = STRUCT_LIST - FIRST_LIST;
            draft.put(at, Bits.listPointer(tagAt - at - 1, kind, size));
            draft.put(tagAt, Bits.structPointer(list.count, data, pointers));
            for (int k = 0; k < list.count; k++) {
                int begin = list.elementBegin(k);
                int first = tagAt + 1 + k * (data + pointers);
                copyWords(from, list, begin, data, first);
                writePointers(from, list, begin + list.elementData, pointers, first + data);
            }
        }

        private void writeFlatList(Message from, Found list, int at) {
            int kind = list.shape - FIRST_LIST;
            int bits = Bits.elementBits(kind);
            int size = Bits.wordsFor(list.count, bits);
            int first = grow(size);
            draft.put(at, Bits.listPointer(first - at - 1, kind, list.count));
            copyWords(from, list, list.begin, size, first);
            int bitsInLast = list.count * bits % 64;
            if (bitsInLast != 0) {
                int last = first + size - 1;
                draft.put(last, draft.at(last) & Bits.lowest(bitsInLast));
            }
        }

        /** Puts words behind those that the form has: the number of the first one. */
        private int grow(int count) {
            int first = draft.size;
            for (int k = 0; k < count; k++) {
                draft.append(0L);
            }
            return first;
        }

        private void copyWords(Message from, Found object, int i, int count, int at) {
            for (int k = 0; k < count; k++) {
                draft.put(at + k, from.at(object.segment, i + k));
            }
        }
    }
}
