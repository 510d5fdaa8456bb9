/** Words of messages, by the bits that the document gives them. */
final class Build {
    private Build() {}

    static long struct(int b, int d, int p) {
        return bits(b, 2, 30) | bits(d, 32, 16) | bits(p, 48, 16);
    }

    static long list(int b, int kind, int n) {
        return 1L | bits(b, 2, 30) | bits(kind, 32, 3) | bits(n, 35, 29);
    }

    static long tag(int m, int d, int p) {
        return struct(m, d, p);
    }

    static long far(long segment, int word) {
        return 2L | bits(word, 3, 29) | bits(segment, 32, 32);
    }

    static long farOfTwo(long segment, int word) {
        return 4L | far(segment, word);
    }

    static void addAll(PointedWords x, int segment, long... words) {
        for (long word : words) {
            if (x.add(segment, word) == PointedWords.NONE) {
                throw new AssertionError("the test's message does not fit");
            }
        }
    }

    static PointedWords message(long... words) {
        PointedWords x = new PointedWords();
        addAll(x, 0, words);
        return x;
    }

    /** A root that is one pointer, which is the word given; then other words from number 2 on. */
    static PointedWords behindRoot(long pointer, long... others) {
        PointedWords x = message(struct(0, 0, 1), pointer);
        addAll(x, 0, others);
        return x;
    }

    /** Adds words, each being its number, until the segment has as many as are asked for. */
    static PointedWords upTo(int count, PointedWords x, int segment) {
        for (int i = x.words(segment); i < count; i++) {
            x.add(segment, i);
        }
        return x;
    }

    /** Structs of one pointer, each leading to the next one; then other words. */
    static PointedWords chain(int structs, long... others) {
        PointedWords x = new PointedWords();
        for (int i = 0; i < structs; i++) {
            x.add(0, struct(0, 0, 1));
        }
        addAll(x, 0, others);
        return x;
    }

    private static long bits(long value, int first, int count) {
        return (value & ((1L << count) - 1)) << first;
    }
}
