/** The edges of what a word is as a pointer, and of the words that its object has. */
final class PointerBoundaries {
    private static final String TERMS = "Terms";
    private static final int[] BITS = {0, 1, 8, 16, 32, 64, 64};
    private static final int MOST_N = (1 << 29) - 1;

    private PointerBoundaries() {}

    static void run() {
        Sentences.test(TERMS,
                "Bits are numbered from 0, the lowest one; \"with sign\" means that the highest of"
                        + " the bits counts below 0.",
                PointerBoundaries::signs);
        Sentences.test(TERMS, "A word of 0 is a NULL pointer: it leads to nothing.",
                PointerBoundaries::nullPointers);
        Sentences.test(TERMS,
                "Else its bits 0 and 1 tell what it is as a POINTER at its place (i its number in"
                        + " the segment):",
                PointerBoundaries::types);
        Sentences.test(TERMS,
                "0 a STRUCT: with b its bits 2 .. 31 with sign, d its bits 32 .. 47, p its bits"
                        + " 48 .. 63, the struct begins with word i + 1 + b of the same segment: d"
                        + " DATA WORDS and behind them p pointers.",
                PointerBoundaries::structs);
        Sentences.test(TERMS,
                "1 a LIST, which begins with word i + 1 + b, too; its KIND k is in bits 32 .. 34,"
                        + " and a number n in bits 35 .. 63.",
                PointerBoundaries::lists);
        Sentences.test(TERMS,
                "Kinds 0 .. 5: n elements of 0, 1, 8, 16, 32, 64 bits, the first in the lowest"
                        + " bits of the first word; as many words as these need (a last word in"
                        + " part).",
                PointerBoundaries::flatLists);
        Sentences.test(TERMS, "Kind 6: n pointers, one a word.", PointerBoundaries::pointerLists);
        Sentences.test(TERMS, "Kind 7: a TAG and n words behind it.",
                PointerBoundaries::structLists);
        Sentences.test(TERMS,
                "The tag's bits 0 and 1 are 0; with m its bits 2 .. 31 (without sign), d and p as"
                        + " above, the list has m ELEMENTS, each a struct of d data words and p"
                        + " pointers, one behind the other from behind the tag;",
                PointerBoundaries::tags);
        Sentences.test(TERMS, "these must be n words at most.", PointerBoundaries::wordsOfElements);
        Sentences.test(TERMS,
                "2 a FAR one: its bits 32 .. 63 name a segment, its bits 3 .. 31 a word in it"
                        + " (both without sign), the PAD.",
                PointerBoundaries::farPointers);
        Sentences.test(TERMS,
                "If bit 2 is 0, the pad is a struct or list pointer, and what this leads to from"
                        + " its own place is meant.",
                PointerBoundaries::padsOfOne);
        Sentences.test(TERMS,
                "If bit 2 is 1, the pad is two words: a far pointer with bit 2 being 0, whose"
                        + " segment and word are where what is meant begins; and behind it a struct"
                        + " or list pointer that tells what it is (its b is not looked at).",
                PointerBoundaries::padsOfTwo);
        Sentences.test(TERMS, "3 is for nothing.", PointerBoundaries::bitsThree);
    }

    private static void signs() {
        Expect.found("b -1", Build.behindRoot(Build.struct(-1, 0, 0)), 0, 0, 0, 0, 0, 1, 2);
        Expect.found("b -2", Build.behindRoot(Build.struct(-2, 0, 0)), 0, 0, 0, 0, 0, 0, 2);
        Expect.found("b -1, a list", Build.behindRoot(Build.list(-1, 0, 1)), 1, 1, 0, 0, 0, 1, 2);
        int highest = 1 << 29;
        long[] others = {highest, highest - 1, -highest + 1, -3};
        for (long b : others) {
            Expect.refused("b " + b, Checks.BOUNDS, Build.behindRoot(Build.struct((int) b, 0, 0)));
            Expect.refused("b " + b + ", a list", Checks.BOUNDS,
                    Build.behindRoot(Build.list((int) b, 0, 0)));
        }
        // Bit 31 is the highest of b, bit 32 the lowest of d.
        Expect.refused("bit 31 alone", Checks.BOUNDS, Build.behindRoot(1L << 31));
        Expect.found("bit 32 alone", Build.behindRoot(1L << 32, 5), 0, 1, 0, 0, 0, 2, 2);
        Expect.found("bit 2 alone", Build.behindRoot(1L << 2, 5), 0, 0, 0, 0, 0, 3, 2);
    }

    private static void nullPointers() {
        PointedWords x = Build.message(Build.struct(0, 0, 4), 0, Build.list(2, 6, 1),
                Build.list(2, 7, 1), Build.struct(-1, 0, 0), 0, Build.tag(1, 0, 1), 0);
        x.open();
        Checks.due("null of a struct", PointedWords.NONE, () -> x.go(0, 0));
        Checks.due("costs nothing", 59, () -> x.left());
        Checks.due("makes no handle", Checks.NO_SUCH, () -> x.about(1, 0));
        x.go(0, 1);
        x.go(0, 2);
        x.element(2, 0);
        Checks.due("null of a list", PointedWords.NONE, () -> x.go(1, 0));
        Checks.due("null of an element", PointedWords.NONE, () -> x.go(3, 0));
        Expect.found("a word of 1", Build.behindRoot(1), 1, 0, 0, 0, 0, 2, 2);
        Expect.found("a word of 2", Build.behindRoot(2), 0, 0, 1, 0, 0, 1, 2);
        Expect.found("a word of 4", Build.behindRoot(4, 0), 0, 0, 0, 0, 0, 3, 2);
        Expect.found("bit 48 alone", Build.behindRoot(1L << 48, 0), 0, 0, 1, 0, 0, 2, 2);
        Expect.refused("bit 63 alone", Checks.BOUNDS, Build.behindRoot(Long.MIN_VALUE, 0));
    }

    private static void types() {
        int[][] due = {{0, 1, 0, 0, 0, 2, 2}, {2, 0, 0, 0, 0, 2, 2}, {0, 2, 0, 0, 1, 1, 2}};
        for (int type = 0; type < 4; type++) {
            PointedWords x = Build.behindRoot((1L << 32) | type, 50);
            Build.addAll(x, 1, Build.struct(0, 2, 0), 60, 61);
            if (type < 3) {
                Expect.found("bits " + type, x, due[type]);
            } else {
                Expect.refused("bits " + type, Checks.ARGUMENT, x);
            }
        }
        long same = Build.struct(1, 1, 0);
        PointedWords x = Build.message(Build.struct(0, 0, 2), same, same, 50, 51);
        x.open();
        x.go(0, 0);
        x.go(0, 1);
        Checks.due("from place 1", 50, () -> x.data(1, 0));
        Checks.due("the same word from place 2", 51, () -> x.data(2, 0));
    }

    private static void structs() {
        Expect.found("to the end", Build.behindRoot(Build.struct(0, 1, 1), 5, 0),
                0, 1, 1, 0, 0, 2, 2);
        Expect.refused("a data word behind the end", Checks.BOUNDS,
                Build.behindRoot(Build.struct(0, 2, 1), 5, 0));
        Expect.refused("a pointer behind the end", Checks.BOUNDS,
                Build.behindRoot(Build.struct(0, 1, 2), 5, 0));
        Expect.found("from word 0", Build.behindRoot(Build.struct(-2, 1, 1)),
                0, 1, 1, 0, 0, 0, 2);
        int[] most = {65535, 32768};
        for (int many : most) {
            Expect.refused("d " + many, Checks.BOUNDS, Build.behindRoot(Build.struct(0, many, 0)));
            Expect.refused("p " + many, Checks.BOUNDS, Build.behindRoot(Build.struct(0, 0, many)));
            Expect.refused("both " + many, Checks.BOUNDS,
                    Build.behindRoot(Build.struct(0, many, many)));
        }
        PointedWords full = Build.upTo(64, Build.behindRoot(Build.struct(0, 62, 0)), 0);
        Expect.found("62 words in a full segment", full, 0, 62, 0, 0, 0, 2, 2);
        Checks.due("the last of them", 63, () -> full.data(1, 61));
        Checks.due("there are no more", 0, () -> full.data(1, 62));
        PointedWords x = Build.behindRoot(Build.struct(0, 1, 2), 5, 0, Build.list(0, 5, 1), 9);
        Expect.found("data, then pointers", x, 0, 1, 2, 0, 0, 2, 2);
        Checks.due("its data word", 5, () -> x.data(1, 0));
        Checks.due("its first pointer", PointedWords.NONE, () -> x.go(1, 0));
        Checks.due("its last pointer", 2, () -> x.go(1, 1));
        Checks.due("what that leads to", 9, () -> x.data(2, 0));
    }

    private static void lists() {
        for (int kind = 0; kind < 7; kind++) {
            String of = "kind " + kind;
            Expect.found(of + " at the end", Build.behindRoot(Build.list(0, kind, 0)),
                    kind + 1, 0, 0, 0, 0, 2, 2);
            Expect.refused(of + " behind it", Checks.BOUNDS,
                    Build.behindRoot(Build.list(1, kind, 0)));
            Expect.found(of + " from word 0", Build.behindRoot(Build.list(-2, kind, 1)),
                    kind + 1, 1, 0, 0, 0, 0, 2);
            Expect.refused(of + " before word 0", Checks.BOUNDS,
                    Build.behindRoot(Build.list(-3, kind, 0)));
        }
        Expect.found("kind 7 from word 0", Build.behindRoot(Build.list(-2, 7, 1)),
                8, 0, 1, 0, 0, 1, 2);
        Expect.refused("kind 7 before word 0", Checks.BOUNDS,
                Build.behindRoot(Build.list(-3, 7, 0)));
        // Bit 34 is the highest of the kind, bit 35 the lowest of n, bit 63 its highest.
        Expect.found("bit 34", Build.behindRoot(1L | 1L << 34), 5, 0, 0, 0, 0, 2, 2);
        Expect.found("bit 35", Build.behindRoot(1L | 1L << 35), 1, 1, 0, 0, 0, 2, 2);
        Expect.refused("bit 63, kind 0", Checks.STATE, Build.behindRoot(1L | 1L << 63));
        for (int kind = 1; kind < 8; kind++) {
            Expect.refused("bit 63, kind " + kind, Checks.BOUNDS,
                    Build.behindRoot(Build.list(0, kind, 1 << 28), 0, 0));
            Expect.refused("the most, kind " + kind, Checks.BOUNDS,
                    Build.behindRoot(Build.list(0, kind, MOST_N), 0, 0));
        }
        Expect.refused("the most, kind 0", Checks.STATE,
                Build.behindRoot(Build.list(0, 0, MOST_N)));
    }

    private static void flatLists() {
        for (int kind = 1; kind < 6; kind++) {
            int inOne = 64 / BITS[kind];
            for (int n : new int[] {1, inOne - 1, inOne, inOne + 1, 2 * inOne, 2 * inOne + 1}) {
                if (n > 0) {
                    dueFlat(kind, n, (n + inOne - 1) / inOne);
                }
            }
        }
        Expect.found("kind 0 needs no words", Build.behindRoot(Build.list(0, 0, 62)),
                1, 62, 0, 0, 0, 2, 2);
    }

    /** A list that needs all words behind the root's pointer; only its last element is not 0. */
    private static void dueFlat(int kind, int n, int words) {
        String of = "kind " + kind + ", " + n + " elements";
        int inOne = 64 / BITS[kind];
        long ones = BITS[kind] == 64 ? -1L : (1L << BITS[kind]) - 1;
        PointedWords x = Build.behindRoot(Build.list(0, kind, n));
        for (int w = 1; w < words; w++) {
            x.add(0, 0);
        }
        Expect.refused(of + ", a word is not there", Checks.BOUNDS, x);
        x.add(0, ones << ((n - 1) % inOne * BITS[kind]));
        Expect.found(of, x, kind + 1, n, 0, 0, 0, 2, 2);
        Checks.due(of + ": the last one", ones, () -> x.data(1, n - 1));
        if (n > 1) {
            Checks.due(of + ": the last but one", 0, () -> x.data(1, n - 2));
            Checks.due(of + ": the first one", 0, () -> x.data(1, 0));
        }
        Checks.due(of + ": the cost", 62 - words, () -> x.left());
    }

    private static void pointerLists() {
        PointedWords full = Build.upTo(64, Build.behindRoot(Build.list(0, 6, 62)), 0);
        full.change(0, 62, 0);
        full.change(0, 63, Build.struct(-1, 0, 0));
        Expect.found("62 pointers", full, 7, 62, 0, 0, 0, 2, 2);
        Checks.due("the last but one", PointedWords.NONE, () -> full.go(1, 60));
        Checks.due("the last, for which nothing is left", Checks.STATE, () -> full.go(1, 61));
        Checks.due("none behind it", Checks.BOUNDS, () -> full.go(1, 62));
        full.change(0, 1, Build.list(0, 6, 63));
        Expect.refused("63 pointers, one is not there", Checks.BOUNDS, full);
        PointedWords x = Build.behindRoot(Build.list(0, 6, 2), 0);
        Expect.refused("one of two is not there", Checks.BOUNDS, x);
        x.add(0, Build.struct(-1, 0, 0));
        Expect.found("two pointers", x, 7, 2, 0, 0, 0, 2, 2);
        Checks.due("the last one", 2, () -> x.go(1, 1));
    }

    private static void structLists() {
        Expect.refused("no tag is there", Checks.BOUNDS, Build.behindRoot(Build.list(0, 7, 0)));
        Expect.found("a tag alone", Build.behindRoot(Build.list(0, 7, 0), 0),
                8, 0, 0, 0, 0, 3, 2);
        PointedWords x = Build.behindRoot(Build.list(0, 7, 2), Build.tag(1, 1, 0), 5);
        Expect.refused("a word behind the tag is not there", Checks.BOUNDS, x);
        x.add(0, 6);
        Expect.found("n words behind the tag", x, 8, 1, 0, 1, 0, 3, 2);
        PointedWords full = Build.behindRoot(Build.list(0, 7, 61), Build.tag(61, 1, 0));
        Build.upTo(64, full, 0);
        Expect.found("61 words behind the tag", full, 8, 61, 0, 1, 0, 3, 2);
        Checks.due("its last element", 2, () -> full.element(1, 60));
        Checks.due("the last word", 63, () -> full.data(2, 0));
        full.change(0, 1, Build.list(0, 7, 62));
        Expect.refused("62 words behind the tag", Checks.BOUNDS, full);
    }

    private static void tags() {
        for (int wrong = 1; wrong < 4; wrong++) {
            Expect.refused("a tag with bits " + wrong, Checks.ARGUMENT,
                    Build.behindRoot(Build.list(0, 7, 1), Build.tag(1, 1, 0) | wrong, 5));
        }
        long none = Build.list(0, 7, 0);
        Expect.found("a tag of 0", Build.behindRoot(none, 0), 8, 0, 0, 0, 0, 3, 2);
        Expect.found("one element without words", Build.behindRoot(none, Build.tag(1, 0, 0)),
                8, 1, 0, 0, 0, 3, 2);
        Expect.found("the widest d", Build.behindRoot(none, Build.tag(0, 65535, 0)),
                8, 0, 0, 65535, 0, 3, 2);
        Expect.found("the widest p", Build.behindRoot(none, Build.tag(0, 0, 65535)),
                8, 0, 65535, 0, 0, 3, 2);
        Expect.found("bits 47 and 48", Build.behindRoot(none, 1L << 47 | 1L << 48),
                8, 0, 1, 32768, 0, 3, 2);
        Expect.found("bits 32 and 63", Build.behindRoot(none, 1L << 32 | 1L << 63),
                8, 0, 32768, 1, 0, 3, 2);
        // Without sign: so many elements, though they have no words, cost too much.
        Expect.refused("m is the most", Checks.STATE, Build.behindRoot(none, Build.tag(-1, 0, 0)));
        Expect.refused("bit 31 of the tag", Checks.STATE, Build.behindRoot(none, 1L << 31));
        PointedWords x = Build.behindRoot(Build.list(0, 7, 6), Build.tag(2, 1, 2),
                10, 0, 0, 11, 0, Build.list(0, 0, 3));
        Expect.found("two elements", x, 8, 2, 2, 1, 0, 3, 2);
        x.element(1, 0);
        x.element(1, 1);
        Expect.parts("the first one", x, 2, 0, 1, 2, 0, 0, 3, 2);
        Expect.parts("the last one", x, 3, 0, 1, 2, 0, 0, 6, 2);
        Checks.due("the data of the first one", 10, () -> x.data(2, 0));
        Checks.due("the data of the last one", 11, () -> x.data(3, 0));
        Checks.due("the last pointer of the first one", PointedWords.NONE, () -> x.go(2, 1));
        Checks.due("the last pointer of the last one", 4, () -> x.go(3, 1));
    }

    private static void wordsOfElements() {
        for (int n = 3; n < 6; n++) {
            PointedWords x = Build.behindRoot(Build.list(0, 7, n), Build.tag(2, 1, 1),
                    1, 0, 2, 0, 3);
            if (n < 4) {
                Expect.refused("4 words of " + n, Checks.ARGUMENT, x);
            } else {
                Expect.found("4 words of " + n, x, 8, 2, 1, 1, 0, 3, 2);
            }
        }
        Expect.refused("1 word of none", Checks.ARGUMENT,
                Build.behindRoot(Build.list(0, 7, 0), Build.tag(1, 0, 1), 0));
        // Numbers of words that are small, or below 0, in 32 bits or fewer.
        int[][] wrapped = {
            {1 << 29, 4, 4}, {1 << 28, 4, 4}, {715827883, 3, 3}, {1 << 16, 65535, 1},
            {1 << 15, 65535, 1}, {-1, 65535, 65535}, {1, 65535, 1}, {1, 65535, 65535},
        };
        for (int[] tag : wrapped) {
            Expect.refused(tag[0] + " elements of " + tag[1] + " and " + tag[2], Checks.ARGUMENT,
                    Build.behindRoot(Build.list(0, 7, 2), Build.tag(tag[0], tag[1], tag[2]), 1, 2));
        }
    }

    private static void farPointers() {
        for (int s = 1; s < 4; s++) {
            PointedWords x = Build.behindRoot(Build.far(s, 63));
            Build.upTo(63, x, s);
            x.add(s, Build.struct(-2, 1, 0));
            Expect.found("a pad in the last word of segment " + s, x, 0, 1, 0, 0, s, 62, 2);
            x.change(0, 1, Build.far(s, 64));
            Expect.refused("word 64 of segment " + s, Checks.BOUNDS, x);
        }
        Expect.found("a pad in segment 0", Build.behindRoot(Build.far(0, 2), Build.list(0, 0, 4)),
                1, 4, 0, 0, 0, 3, 2);
        long[] noSegments = {4, 5, 7, 256, 65536, 1L << 31, (1L << 32) - 1, (1L << 32) - 4};
        for (long s : noSegments) {
            Expect.refused("segment " + s, Checks.BOUNDS,
                    Build.behindRoot(Build.far(s, 2), Build.list(0, 0, 4)));
        }
        for (int i : new int[] {3, 64, 1 << 28, (1 << 29) - 1, (1 << 29) - 2}) {
            Expect.refused("word " + i, Checks.BOUNDS,
                    Build.behindRoot(Build.far(0, i), Build.list(0, 0, 4)));
            Expect.refused("word " + i + ", two", Checks.BOUNDS,
                    Build.behindRoot(Build.farOfTwo(0, i), Build.far(0, 0), Build.list(0, 0, 4)));
        }
    }

    /** A root that is one far pointer, with its pad from word 1 of segment 1 on. */
    private static PointedWords withPad(boolean ofTwo, long... pad) {
        PointedWords x = Build.behindRoot(ofTwo ? Build.farOfTwo(1, 1) : Build.far(1, 1));
        x.add(1, 40);
        Build.addAll(x, 1, pad);
        Build.addAll(x, 3, 30, 31, 32);
        return x;
    }

    private static void padsOfOne() {
        Expect.found("a struct from the pad on", withPad(false, Build.struct(0, 1, 0), 41),
                0, 1, 0, 0, 1, 2, 2);
        Expect.found("a struct from word 0 of its segment", withPad(false, Build.struct(-2, 2, 0)),
                0, 2, 0, 0, 1, 0, 2);
        Expect.found("no words, at the end", withPad(false, Build.struct(1, 0, 0), 41),
                0, 0, 0, 0, 1, 3, 2);
        Expect.refused("no words, behind the end", Checks.BOUNDS,
                withPad(false, Build.struct(2, 0, 0), 41));
        Expect.refused("before word 0", Checks.BOUNDS, withPad(false, Build.struct(-3, 0, 0), 41));
        Expect.found("a list", withPad(false, Build.list(-2, 5, 2)), 6, 2, 0, 0, 1, 0, 2);
        Expect.found("a list with a tag", withPad(false, Build.list(0, 7, 0), Build.tag(2, 0, 0)),
                8, 2, 0, 0, 1, 3, 2);
        long[] wrong = {0, 3, -1, Build.far(1, 0), Build.farOfTwo(3, 0)};
        for (long pad : wrong) {
            Expect.refused("a pad of " + pad, Checks.ARGUMENT, withPad(false, pad, 41));
        }
        Expect.refused("its own pad", Checks.ARGUMENT, Build.behindRoot(Build.far(0, 1)));
    }

    private static void padsOfTwo() {
        Expect.found("from word 0", withPad(true, Build.far(3, 0), Build.struct(-1, 3, 0)),
                0, 3, 0, 0, 3, 0, 2);
        Expect.found("no words, at the end", withPad(true, Build.far(3, 3), Build.struct(9, 0, 0)),
                0, 0, 0, 0, 3, 3, 2);
        Expect.refused("no words, behind it", Checks.BOUNDS,
                withPad(true, Build.far(3, 4), Build.struct(9, 0, 0)));
        Expect.refused("a word behind the end", Checks.BOUNDS,
                withPad(true, Build.far(3, 1), Build.list(0, 5, 3)));
        int[] offsets = {-(1 << 29), -1, 0, 1, (1 << 29) - 1};
        for (int b : offsets) {
            Expect.found("a struct, b " + b, withPad(true, Build.far(3, 2), Build.struct(b, 1, 0)),
                    0, 1, 0, 0, 3, 2, 2);
            Expect.found("a list, b " + b, withPad(true, Build.far(3, 1), Build.list(b, 5, 2)),
                    6, 2, 0, 0, 3, 1, 2);
        }
        long[] noSegments = {4, 1L << 31, (1L << 32) - 1};
        for (long s : noSegments) {
            Expect.refused("begins in segment " + s, Checks.BOUNDS,
                    withPad(true, Build.far(s, 0), Build.struct(1, 0, 0)));
        }
        Expect.refused("begins with the last word of all", Checks.BOUNDS,
                withPad(true, Build.far(3, -1), Build.struct(1, 0, 0)));
        long struct = Build.struct(1, 0, 0);
        long[] wrongFirst = {0, 1, 3, struct, Build.farOfTwo(3, 0), Build.list(0, 5, 1)};
        for (long first : wrongFirst) {
            Expect.refused("first " + first, Checks.ARGUMENT, withPad(true, first, struct));
        }
        long[] wrongSecond = {0, 2, 3, Build.far(3, 0), Build.farOfTwo(3, 0), -1};
        for (long second : wrongSecond) {
            Expect.refused("then " + second, Checks.ARGUMENT,
                    withPad(true, Build.far(3, 0), second));
        }
        for (int s = 1; s < 4; s++) {
            PointedWords x = Build.upTo(62, Build.behindRoot(Build.farOfTwo(s, 62)), s);
            Build.addAll(x, s, Build.far(s, 61), Build.struct(9, 1, 0));
            Expect.found("the last two words of segment " + s, x, 0, 1, 0, 0, s, 61, 2);
            x.change(0, 1, Build.farOfTwo(s, 63));
            x.change(s, 63, Build.far(s, 61));
            Expect.refused("the last word and none", Checks.BOUNDS, x);
        }
    }

    private static void bitsThree() {
        long[] words = {3, 7, -1, Build.struct(0, 1, 0) | 3, Build.far(0, 0) | 3,
            Long.MIN_VALUE | 3};
        for (long word : words) {
            Expect.refused("word " + word, Checks.ARGUMENT, Build.behindRoot(word, 5));
            Expect.refusedRoot("root " + word, Checks.ARGUMENT, Build.message(word, 5));
        }
    }
}
