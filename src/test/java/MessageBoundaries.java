/** The edges of promises 1 to 6: the segments and their words. */
final class MessageBoundaries {
    private static final int[] NO_SEGMENTS = {-1, 4, Integer.MIN_VALUE, Integer.MAX_VALUE};

    private MessageBoundaries() {}

    static void run() {
        Sentences.test("Terms",
                "A MESSAGE has SEGMENTS 0 .. 3, each a row of at most 64 WORDS (longs), none at"
                        + " first; a word's PLACE is its segment and its number from 0.",
                MessageBoundaries::segments);
        Sentences.test("Promise 1: A new object",
                "Segments without words; the budget is 63; no handles, no form, none that is"
                        + " kept.",
                MessageBoundaries::newObject);
        Sentences.test("Promise 2: add", "A word more in a segment: its number.",
                MessageBoundaries::added);
        Sentences.test("Promise 2: add",
                "NONE, changing nothing, when there is no such segment or it has 64.",
                MessageBoundaries::notAdded);
        Sentences.test("Promise 3: change", "A word of a segment becomes another one.",
                MessageBoundaries::changed);
        Sentences.test("Promise 3: change", "False when there is no such word.",
                MessageBoundaries::notChanged);
        Sentences.test("Promise 4: cut", "A segment keeps its first n words.",
                MessageBoundaries::cut);
        Sentences.test("Promise 4: cut",
                "False when there is no such segment, n is negative, or it has not so many.",
                MessageBoundaries::notCut);
        Sentences.test("Promise 5: words",
                "The number of words of a segment; NONE when there is none such.",
                MessageBoundaries::numbersOfWords);
        Sentences.test("Promise 6: word", "A word; 0 when there is no such one.",
                MessageBoundaries::readWords);
    }

    private static void segments() {
        PointedWords x = new PointedWords();
        for (int s = 0; s < 4; s++) {
            int segment = s;
            Checks.due("words at first", 0, () -> x.words(segment));
            Build.upTo(63, x, s);
            Checks.due("the 64th word", 63, () -> x.add(segment, -segment));
            Checks.due("a 65th word", PointedWords.NONE, () -> x.add(segment, 1));
            Checks.due("words at last", 64, () -> x.words(segment));
        }
        for (int s = 0; s < 4; s++) {
            int segment = s;
            Checks.due("the last word of its own segment", -s, () -> x.word(segment, 63));
        }
        for (int s : NO_SEGMENTS) {
            Checks.due("segment " + s, PointedWords.NONE, () -> x.words(s));
        }
        PointedWords y = new PointedWords();
        long[] longs = {Long.MIN_VALUE, Long.MAX_VALUE, -1, 0, 1L << 32, 1L << 31};
        Build.addAll(y, 3, longs);
        for (int i = 0; i < longs.length; i++) {
            int number = i;
            Checks.due("all bits of a word", longs[i], () -> y.word(3, number));
        }
    }

    private static void newObject() {
        PointedWords x = new PointedWords();
        for (int s = 0; s < 4; s++) {
            int segment = s;
            Checks.due("words(" + s + ")", 0, () -> x.words(segment));
        }
        for (int h : new int[] {-1, 0, 15}) {
            Checks.due("handle " + h, Checks.NO_SUCH, () -> x.about(h, 0));
        }
        Checks.due("left()", 0, () -> x.left());
        Checks.due("formed(0)", 0, () -> x.formed(0));
        Checks.due("adopt()", false, x.adopt());
        Checks.due("keep()", false, x.keep());
        Checks.due("same()", false, x.same());
        PointedWords all = Build.upTo(64, Build.message(Build.struct(-1, 64, 0)), 0);
        Checks.due("a root of 64 words", Checks.STATE, () -> all.open());
        Checks.due("its form", Checks.STATE, () -> all.form());
        all.change(0, 0, Build.struct(0, 63, 0));
        Checks.due("a root of 63 words", 63, () -> all.open());
        Checks.due("its form", 64, () -> all.form());
        Checks.due("none is kept with the first form", false, all.same());
    }

    private static void added() {
        PointedWords x = new PointedWords();
        for (int i = 0; i < 64; i++) {
            int number = i;
            Checks.due("add", number, () -> x.add(0, 100 + number));
        }
        Checks.due("another segment counts from 0", 0, () -> x.add(3, 8));
        x.cut(0, 63);
        Checks.due("the last place, free again", 63, () -> x.add(0, 9));
        Checks.due("has the new word", 9, () -> x.word(0, 63));
        x.cut(0, 0);
        Checks.due("the first place, free again", 0, () -> x.add(0, 7));
        Checks.due("has the new word", 7, () -> x.word(0, 0));
        Checks.due("and no word behind it", 0, () -> x.word(0, 1));
    }

    private static void notAdded() {
        PointedWords x = Build.message(Build.struct(0, 1, 0), 5);
        for (int s = 1; s < 4; s++) {
            Build.upTo(64, x, s);
        }
        x.open();
        for (int s : NO_SEGMENTS) {
            Checks.due("add to segment " + s, PointedWords.NONE, () -> x.add(s, 1));
        }
        for (int s = 1; s < 4; s++) {
            int segment = s;
            Checks.due("add to a full segment", PointedWords.NONE, () -> x.add(segment, -9));
            Checks.due("it has 64", 64, () -> x.words(segment));
            Checks.due("its last word", 63, () -> x.word(segment, 63));
            Checks.due("its first word", 0, () -> x.word(segment, 0));
        }
        Checks.due("segment 0 has as many", 2, () -> x.words(0));
        Checks.due("handles stay", 5, () -> x.data(0, 0));
        Checks.due("and what is left", 62, () -> x.left());
    }

    private static void changed() {
        PointedWords x = Build.upTo(64, new PointedWords(), 2);
        Checks.due("the first word", true, x.change(2, 0, Long.MIN_VALUE));
        Checks.due("the last word", true, x.change(2, 63, Long.MAX_VALUE));
        Checks.due("word 0", Long.MIN_VALUE, () -> x.word(2, 0));
        Checks.due("word 1 stays", 1, () -> x.word(2, 1));
        Checks.due("word 62 stays", 62, () -> x.word(2, 62));
        Checks.due("word 63", Long.MAX_VALUE, () -> x.word(2, 63));
        Checks.due("there are as many", 64, () -> x.words(2));
        Checks.due("a word becomes 0", true, x.change(2, 63, 0));
        Checks.due("and is there", 64, () -> x.words(2));
    }

    private static void notChanged() {
        PointedWords x = new PointedWords();
        Checks.due("in an empty segment", false, x.change(1, 0, 5));
        Build.addAll(x, 1, 10, 11, 12);
        Checks.due("the one behind the last", false, x.change(1, 3, 5));
        for (int i : Expect.FAR_OFF) {
            Checks.due("word " + i, false, x.change(1, i, 5));
        }
        for (int s : NO_SEGMENTS) {
            Checks.due("in segment " + s, false, x.change(s, 0, 5));
        }
        x.cut(1, 2);
        Checks.due("one that was cut", false, x.change(1, 2, 5));
        x.add(1, 13);
        Checks.due("what is there again", 13, () -> x.word(1, 2));
        Build.upTo(64, x, 1);
        Checks.due("word 64", false, x.change(1, 64, 5));
        for (int s : new int[] {0, 2, 3}) {
            Checks.due("segments without words", 0, () -> x.words(s));
        }
    }

    private static void cut() {
        PointedWords x = Build.upTo(64, new PointedWords(), 1);
        Build.addAll(x, 2, 7);
        Checks.due("cut to all 64", true, x.cut(1, 64));
        Checks.due("words", 64, () -> x.words(1));
        Checks.due("cut to 63", true, x.cut(1, 63));
        Checks.due("words", 63, () -> x.words(1));
        Checks.due("the last one kept", 62, () -> x.word(1, 62));
        Checks.due("the one that was cut", 0, () -> x.word(1, 63));
        Checks.due("cut to 1", true, x.cut(1, 1));
        Checks.due("words", 1, () -> x.words(1));
        Checks.due("cut to 0", true, x.cut(1, 0));
        Checks.due("words", 0, () -> x.words(1));
        Checks.due("cut to 0 again", true, x.cut(1, 0));
        Checks.due("another segment stays", 7, () -> x.word(2, 0));
    }

    private static void notCut() {
        PointedWords x = new PointedWords();
        Build.addAll(x, 3, 10, 11);
        for (int n : new int[] {3, 64, 65, -1, Integer.MIN_VALUE, Integer.MAX_VALUE}) {
            Checks.due("cut to " + n, false, x.cut(3, n));
        }
        for (int s : NO_SEGMENTS) {
            Checks.due("cut of segment " + s, false, x.cut(s, 0));
        }
        Checks.due("an empty segment to 1", false, x.cut(0, 1));
        Checks.due("words", 2, () -> x.words(3));
        Checks.due("the last word", 11, () -> x.word(3, 1));
        Build.upTo(64, x, 3);
        Checks.due("cut of 64 to 65", false, x.cut(3, 65));
        Checks.due("words of a full segment", 64, () -> x.words(3));
    }

    private static void numbersOfWords() {
        PointedWords x = Build.upTo(64, new PointedWords(), 0);
        x.add(3, 0);
        int[] due = {64, 0, 0, 1};
        for (int s = 0; s < 4; s++) {
            int segment = s;
            Checks.due("words(" + s + ")", due[s], () -> x.words(segment));
        }
        for (int s : NO_SEGMENTS) {
            Checks.due("words(" + s + ")", PointedWords.NONE, () -> x.words(s));
        }
    }

    private static void readWords() {
        PointedWords x = Build.upTo(64, new PointedWords(), 0);
        Build.addAll(x, 3, -7, -8);
        Checks.due("the last of 64", 63, () -> x.word(0, 63));
        Checks.due("word 64", 0, () -> x.word(0, 64));
        Checks.due("the first", -7, () -> x.word(3, 0));
        Checks.due("the last", -8, () -> x.word(3, 1));
        Checks.due("the one behind", 0, () -> x.word(3, 2));
        Checks.due("in an empty segment", 0, () -> x.word(1, 0));
        for (int i : Expect.FAR_OFF) {
            Checks.due("word " + i, 0, () -> x.word(0, i));
        }
        for (int s : NO_SEGMENTS) {
            Checks.due("in segment " + s, 0, () -> x.word(s, 1));
        }
        x.cut(3, 1);
        Checks.due("one that was cut", 0, () -> x.word(3, 1));
    }
}
