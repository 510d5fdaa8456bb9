/** Promises 1 to 6: a new object, add, change, cut, words, word. */
public final class MessageTest {
    public static void main(String[] args) {
        newObject();
        addition();
        changing();
        cutting();
        endingHandles();
        Checks.end();
    }

    private static void newObject() {
        PointedWords x = new PointedWords();
        for (int s = 0; s < 4; s++) {
            int segment = s;
            Checks.due("words(" + s + ") of a new object", 0, () -> x.words(segment));
            Checks.due("word(" + s + ", 0) of a new object", 0, () -> x.word(segment, 0));
        }
        Checks.due("left() of a new object", 0, () -> x.left());
        Checks.due("about(0, 0) of a new object", Checks.NO_SUCH, () -> x.about(0, 0));
        Checks.due("formed(0) of a new object", 0, () -> x.formed(0));
        Checks.due("adopt() of a new object", false, x.adopt());
        Checks.due("keep() of a new object", false, x.keep());
        Checks.due("same() of a new object", false, x.same());
        x.add(0, Build.struct(0, 63, 0));
        for (int i = 0; i < 63; i++) {
            x.add(0, i);
        }
        Checks.due("open() with the first budget", 63, () -> x.open());
        Checks.due("left() of it", 0, () -> x.left());
    }

    /** Two objects, since what one answers after 512 calls is free. */
    private static void addition() {
        addedTo(0, 1);
        addedTo(2, 3);
    }

    private static void addedTo(int... segments) {
        PointedWords x = new PointedWords();
        for (int s : segments) {
            for (int i = 0; i < 64; i++) {
                long word = 1000L * s + i - 7;
                Checks.due("add", i, () -> x.add(s, word));
                Checks.due("words", i + 1, () -> x.words(s));
            }
            Checks.due("a 65th word", PointedWords.NONE, () -> x.add(s, 1));
            Checks.due("words of a full segment", 64, () -> x.words(s));
        }
        for (int s : segments) {
            for (int i = 0; i < 64; i++) {
                int number = i;
                Checks.due("word", 1000L * s + i - 7, () -> x.word(s, number));
            }
            Checks.due("word 64", 0, () -> x.word(s, 64));
            Checks.due("word -1", 0, () -> x.word(s, -1));
            Checks.due("word far off", 0, () -> x.word(s, Integer.MIN_VALUE));
        }
        for (int s : new int[] {-1, 4, Integer.MAX_VALUE, Integer.MIN_VALUE}) {
            Checks.due("add, no segment", PointedWords.NONE, () -> x.add(s, 1));
            Checks.due("words, no segment", PointedWords.NONE, () -> x.words(s));
            Checks.due("word, no segment", 0, () -> x.word(s, 0));
        }
    }

    private static void changing() {
        PointedWords x = new PointedWords();
        Checks.due("change of no word", false, x.change(1, 0, 5));
        Build.addAll(x, 1, 10, 11, 12);
        Checks.due("change", true, x.change(1, 2, Long.MIN_VALUE));
        Checks.due("the word changed", Long.MIN_VALUE, () -> x.word(1, 2));
        Checks.due("the word before", 11, () -> x.word(1, 1));
        Checks.due("the same in another segment", 0, () -> x.word(0, 2));
        Checks.due("change behind the end", false, x.change(1, 3, 5));
        Checks.due("change of word -1", false, x.change(1, -1, 5));
        Checks.due("change far off", false, x.change(1, Integer.MAX_VALUE, 5));
        Checks.due("change in segment 4", false, x.change(4, 0, 5));
        Checks.due("change in segment -1", false, x.change(-1, 0, 5));
        Checks.due("words stay as many", 3, () -> x.words(1));
        Checks.due("no word behind", 0, () -> x.word(1, 3));
    }

    private static void cutting() {
        PointedWords x = new PointedWords();
        Build.addAll(x, 2, 10, 11, 12);
        Checks.due("cut to more", false, x.cut(2, 4));
        Checks.due("cut to less than none", false, x.cut(2, -1));
        Checks.due("cut of segment 4", false, x.cut(4, 0));
        Checks.due("cut of segment -1", false, x.cut(-1, 0));
        Checks.due("nothing was cut", 3, () -> x.words(2));
        Checks.due("cut to as many", true, x.cut(2, 3));
        Checks.due("cut to one", true, x.cut(2, 1));
        Checks.due("words after the cut", 1, () -> x.words(2));
        Checks.due("the word that is kept", 10, () -> x.word(2, 0));
        Checks.due("a word that was cut", 0, () -> x.word(2, 1));
        Checks.due("change of a word that was cut", false, x.change(2, 1, 5));
        Checks.due("add after the cut", 1, () -> x.add(2, 20));
        Checks.due("the word added", 20, () -> x.word(2, 1));
        Checks.due("the next one is not there", 0, () -> x.word(2, 2));
        Checks.due("cut to none", true, x.cut(2, 0));
        Checks.due("cut of an empty segment to none", true, x.cut(3, 0));
        Checks.due("cut of an empty segment to one", false, x.cut(3, 1));
    }

    private static PointedWords opened() {
        PointedWords x = Build.message(Build.struct(0, 1, 0), 5);
        x.form();
        x.open();
        return x;
    }

    private static void dueHandles(String what, PointedWords x, boolean there) {
        Checks.due("handle 0 after " + what, there ? "5" : Checks.NO_SUCH, () -> x.data(0, 0));
        Checks.due("left() after " + what, there ? 62 : 0, () -> x.left());
    }

    private static void endingHandles() {
        PointedWords x = opened();
        x.add(3, 0);
        dueHandles("add", x, false);
        x = opened();
        x.change(0, 1, 5);
        dueHandles("change to the same", x, false);
        x = opened();
        x.cut(1, 0);
        dueHandles("cut of nothing", x, false);
        x = opened();
        x.adopt();
        dueHandles("adopt", x, false);
        x = opened();
        x.add(4, 0);
        x.change(0, 2, 0);
        x.cut(0, 3);
        x.budget(64);
        x.budget(7);
        x.keep();
        x.same();
        x.form();
        dueHandles("calls that end none", x, true);
        PointedWords full = Build.message(Build.struct(0, 1, 0), 5);
        for (int i = 0; i < 64; i++) {
            full.add(1, i);
        }
        full.open();
        full.add(1, 1);
        full.adopt();
        dueHandles("refused add and adopt", full, true);
    }
}
