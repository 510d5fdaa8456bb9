/** Promises 14 to 18: form, formed, adopt, keep, same. */
public final class FormTest {
    public static void main(String[] args) {
        roots();
        structs();
        flatLists();
        pointerLists();
        structLists();
        orderOfWriting();
        orderAmongSegments();
        budgets();
        whatIsWrongFirst();
        formsStay();
        adopting();
        keeping();
        Checks.end();
    }

    private static void due(String what, PointedWords x, long... form) {
        Checks.due("form of " + what, form.length, () -> x.form());
        for (int i = 0; i < form.length; i++) {
            int number = i;
            Checks.due("word " + i + " of the form of " + what, form[i], () -> x.formed(number));
        }
        Checks.due("behind the form of " + what, 0, () -> x.formed(form.length));
        Checks.due("before the form of " + what, 0, () -> x.formed(-1));
        Checks.due("far off the form of " + what, 0, () -> x.formed(Integer.MAX_VALUE));
        x.adopt();
        Checks.due("form of the form of " + what, form.length, () -> x.form());
        for (int i = 0; i < form.length; i++) {
            int number = i;
            Checks.due("a form's form", form[i], () -> x.formed(number));
        }
    }

    private static void roots() {
        Checks.due("form without words", Checks.BOUNDS, () -> new PointedWords().form());
        Checks.due("form of null", Checks.NO_SUCH, () -> Build.message(0).form());
        Checks.due("form of a list", Checks.ARGUMENT, () -> Build.message(1).form());
        Checks.due("form of a dear list", Checks.ARGUMENT,
                () -> Build.message(Build.list(0, 0, 64)).form());
        Checks.due("form of bits 3", Checks.ARGUMENT, () -> Build.message(3).form());
        Checks.due("form out of bounds", Checks.BOUNDS,
                () -> Build.message(Build.struct(0, 1, 0)).form());
        PointedWords far = Build.message(Build.farOfTwo(1, 0));
        Build.addAll(far, 1, Build.far(2, 1), Build.struct(7, 1, 0));
        Build.addAll(far, 2, 8, 9);
        due("a far root", far, Build.struct(0, 1, 0), 9);
    }

    private static void structs() {
        long empty = Build.struct(-1, 0, 0);
        due("no words", Build.message(Build.struct(1, 0, 0), 8), empty);
        due("words of 0", Build.message(Build.struct(0, 2, 2), 0, 0, 0, 0), empty);
        due("data with 0 at the end", Build.message(Build.struct(0, 4, 0), 0, 5, 0, 0),
                Build.struct(0, 2, 0), 0, 5);
        due("null at the end", Build.message(Build.struct(0, 1, 3), 0, 0, empty, 0),
                Build.struct(0, 0, 2), 0, empty);
        due("data and pointers", Build.message(Build.struct(1, 2, 2), 99, 3, 0, empty, 0),
                Build.struct(0, 1, 1), 3, empty);
        due("an empty struct that is not the last",
                Build.message(Build.struct(0, 0, 2), Build.struct(1, 1, 0),
                        Build.struct(0, 1, 0), 6),
                Build.struct(0, 0, 2), Build.struct(1, 1, 0), Build.struct(1, 1, 0), 6, 6);
    }

    private static void flatLists() {
        int[] bits = {0, 1, 8, 16, 32, 64};
        int[] some = {9, 67, 9, 5, 3, 2};
        long[] lastMask = {0, 7L, 0xFFL, 0xFFFFL, 0xFFFFFFFFL, -1L};
        for (int kind = 1; kind < 6; kind++) {
            due("kind " + kind + ", a last word in part",
                    Build.behindRoot(Build.list(1, kind, some[kind]), 0, -1, -1, -1),
                    Build.struct(0, 0, 1), Build.list(0, kind, some[kind]), -1, lastMask[kind]);
            int whole = 64 / bits[kind];
            due("kind " + kind + ", a whole word",
                    Build.behindRoot(Build.list(1, kind, whole), 0, Long.MIN_VALUE, -1),
                    Build.struct(0, 0, 1), Build.list(0, kind, whole), Long.MIN_VALUE);
            due("kind " + kind + ", elements of 0",
                    Build.behindRoot(Build.list(0, kind, whole), 0, -1),
                    Build.struct(0, 0, 1), Build.list(0, kind, whole), 0);
            due("kind " + kind + ", no elements",
                    Build.behindRoot(Build.list(2, kind, 0), 5, 5),
                    Build.struct(0, 0, 1), Build.list(0, kind, 0));
        }
        due("kind 1, one bit that is none", Build.behindRoot(Build.list(0, 1, 63), -1),
                Build.struct(0, 0, 1), Build.list(0, 1, 63), Long.MAX_VALUE);
        due("kind 0", Build.behindRoot(Build.list(-2, 0, 9)),
                Build.struct(0, 0, 1), Build.list(0, 0, 9));
        // b of lists without words is the word that would come next, wherever the pointer is.
        due("lists without words",
                Build.message(Build.struct(0, 0, 3), Build.list(0, 0, 4), Build.struct(1, 1, 0),
                        Build.list(-1, 5, 0), 8),
                Build.struct(0, 0, 3), Build.list(2, 0, 4), Build.struct(1, 1, 0),
                Build.list(1, 5, 0), 8);
    }

    private static void pointerLists() {
        due("null pointers stay", Build.behindRoot(Build.list(0, 6, 3), 0, Build.list(1, 2, 1), 0,
                0x1FFL),
                Build.struct(0, 0, 1), Build.list(0, 6, 3), 0, Build.list(1, 2, 1), 0, 0xFF);
        due("null pointers alone", Build.behindRoot(Build.list(0, 6, 2), 0, 0),
                Build.struct(0, 0, 1), Build.list(0, 6, 2), 0, 0);
        due("no pointers", Build.behindRoot(Build.list(-1, 6, 0)),
                Build.struct(0, 0, 1), Build.list(0, 6, 0));
    }

    private static void structLists() {
        long root = Build.struct(0, 0, 1);
        due("no words", Build.behindRoot(Build.list(0, 7, 2), Build.tag(0, 1, 1), 5, 6),
                root, Build.list(0, 7, 0), Build.tag(0, 0, 0));
        due("elements without words", Build.behindRoot(Build.list(0, 7, 0), Build.tag(9, 0, 0)),
                root, Build.list(0, 7, 0), Build.tag(9, 0, 0));
        due("elements of 0", Build.behindRoot(Build.list(0, 7, 4), Build.tag(2, 1, 1), 0, 0, 0, 0),
                root, Build.list(0, 7, 0), Build.tag(2, 0, 0));
        due("words behind the elements",
                Build.behindRoot(Build.list(0, 7, 4), Build.tag(1, 2, 0), 4, 5, 6, 7),
                root, Build.list(0, 7, 2), Build.tag(1, 2, 0), 4, 5);
        due("the greatest of each",
                Build.behindRoot(Build.list(0, 7, 15), Build.tag(3, 3, 2),
                        1, 0, 0, 0, 0,
                        2, 3, 0, 0, 0,
                        0, 0, 0, Build.list(1, 5, 1), 0, 77),
                root, Build.list(0, 7, 9), Build.tag(3, 2, 1),
                1, 0, 0,
                2, 3, 0,
                0, 0, Build.list(0, 5, 1), 77);
        due("pointers alone",
                Build.behindRoot(Build.list(0, 7, 6), Build.tag(2, 1, 2),
                        0, 0, Build.struct(-1, 0, 0), 0, Build.struct(-1, 0, 0), 0),
                root, Build.list(0, 7, 4), Build.tag(2, 0, 2),
                0, Build.struct(-1, 0, 0), Build.struct(-1, 0, 0), 0);
    }

    private static void orderOfWriting() {
        long empty = Build.struct(-1, 0, 0);
        // Each pointer with all that it leads to, before the next one; shared objects are written
        // for each pointer.
        due("a tree",
                Build.message(Build.struct(0, 1, 2),
                        1, Build.struct(1, 0, 2), Build.struct(4, 1, 0),
                        Build.struct(1, 1, 1), Build.struct(2, 1, 0), 4, empty, 9),
                Build.struct(0, 1, 2), 1, Build.struct(1, 0, 2), Build.struct(5, 1, 0),
                Build.struct(1, 1, 1), Build.struct(2, 1, 0), 4, empty, 9, 9);
        due("elements one behind the other",
                Build.behindRoot(Build.list(0, 7, 2), Build.tag(2, 0, 1),
                        Build.struct(2, 1, 1), Build.struct(0, 1, 0), 5, 6, Build.list(-2, 5, 1)),
                Build.struct(0, 0, 1), Build.list(0, 7, 2), Build.tag(2, 0, 1),
                Build.struct(1, 1, 1), Build.struct(3, 1, 0),
                6, Build.list(0, 5, 1), 6, 5);
    }

    /** What comes behind an object goes on in its own segment and at its own depth. */
    private static void orderAmongSegments() {
        PointedWords x = Build.message(Build.struct(0, 0, 3), Build.far(1, 0), Build.list(2, 5, 1),
                Build.far(1, 0), 0, 10);
        Build.addAll(x, 1, Build.struct(0, 1, 2), 11, Build.far(2, 0), Build.struct(0, 1, 0), 12);
        Build.addAll(x, 2, Build.struct(0, 1, 1), 13, Build.far(3, 0));
        Build.addAll(x, 3, Build.list(0, 6, 2), Build.struct(1, 1, 0), Build.struct(0, 1, 0), 14);
        due("a tree among segments", x,
                Build.struct(0, 0, 3),
                Build.struct(2, 1, 2), Build.list(11, 5, 1), Build.struct(11, 1, 2),
                11, Build.struct(1, 1, 1), Build.struct(6, 1, 0),
                13, Build.list(0, 6, 2), Build.struct(1, 1, 0), Build.struct(1, 1, 0), 14, 14,
                12,
                10,
                11, Build.struct(1, 1, 1), Build.struct(6, 1, 0),
                13, Build.list(0, 6, 2), Build.struct(1, 1, 0), Build.struct(1, 1, 0), 14, 14,
                12);
    }

    private static void budgets() {
        PointedWords x = Build.message(Build.struct(0, 2, 1), 1, 0, Build.list(0, 7, 3),
                Build.tag(1, 1, 1), 4, Build.struct(-1, 0, 0), 9);
        x.open();
        x.go(0, 0);
        int left = x.left();
        x.budget(8);
        Checks.due("form for the whole budget", 6, () -> x.form());
        Checks.due("what is left for handles stays", left, () -> x.left());
        Checks.due("and the handles", 8, () -> x.about(1, 0));
        x.budget(7);
        Checks.due("form for one less", Checks.STATE, () -> x.form());
        Checks.due("the form stays", Build.struct(0, 1, 1), () -> x.formed(0));
        PointedWords full = Build.message(Build.struct(0, 1, 1));
        full.add(0, 7);
        full.add(0, Build.list(0, 5, 61));
        for (int i = 0; i < 61; i++) {
            full.add(0, ~i);
        }
        Checks.due("the longest form", 64, () -> full.form());
        Checks.due("its last word", ~60L, () -> full.formed(63));
        full.adopt();
        Checks.due("as a message", 64, () -> full.words(0));
        Checks.due("its last word there", ~60L, () -> full.word(0, 63));
        PointedWords fan = Build.message(Build.struct(-1, 31, 0));
        fan.change(0, 0, Build.struct(0, 0, 31));
        for (int i = 0; i < 31; i++) {
            fan.add(0, Build.struct(-1, 0, 0));
        }
        Checks.due("31 objects without words", 32, () -> fan.form());
        fan.change(0, 1, Build.list(0, 0, 3));
        Checks.due("one of them costs 3", Checks.STATE, () -> fan.form());
        fan.change(0, 1, Build.list(0, 0, 2));
        Checks.due("one of them costs 2", 32, () -> fan.form());
    }

    private static void whatIsWrongFirst() {
        long away = Build.struct(99, 0, 0);
        Checks.due("bits 3, then out of bounds", Checks.ARGUMENT,
                () -> Build.message(Build.struct(0, 0, 2), 3, away).form());
        Checks.due("out of bounds, then bits 3", Checks.BOUNDS,
                () -> Build.message(Build.struct(0, 0, 2), away, 3).form());
        Checks.due("what is below comes before the next one", Checks.ARGUMENT,
                () -> Build.message(Build.struct(0, 0, 2), Build.struct(1, 0, 1), away, 3).form());
        Checks.due("the budget, then bits 3", Checks.STATE,
                () -> Build.message(Build.struct(0, 0, 2), Build.list(0, 0, 62), 3).form());
        Checks.due("a wrong word that is data", 2,
                () -> Build.message(Build.struct(0, 1, 0), 3).form());
        Checks.due("a wrong word behind the elements", 3,
                () -> Build.behindRoot(Build.list(0, 7, 1), Build.tag(0, 0, 1), 3).form());
    }

    private static void formsStay() {
        PointedWords x = Build.message(Build.struct(0, 1, 0), 5);
        x.form();
        x.change(0, 1, 6);
        Checks.due("after change", 5, () -> x.formed(1));
        x.cut(0, 0);
        Checks.due("after cut", 5, () -> x.formed(1));
        Checks.due("a form that fails", Checks.BOUNDS, () -> x.form());
        Checks.due("after a form that fails", 5, () -> x.formed(1));
        Build.addAll(x, 0, Build.struct(0, 0, 2), Build.list(1, 5, 1), 3, 44);
        Checks.due("a form that fails halfway", Checks.ARGUMENT, () -> x.form());
        Checks.due("word 0 after it", Build.struct(0, 1, 0), () -> x.formed(0));
        Checks.due("word 1 after it", 5, () -> x.formed(1));
        Checks.due("word 2 after it", 0, () -> x.formed(2));
        x.change(0, 2, 0);
        Checks.due("a new form", 3, () -> x.form());
        Checks.due("is the latest", 44, () -> x.formed(2));
        x.change(0, 0, Build.struct(2, 1, 0));
        Checks.due("a shorter form", 2, () -> x.form());
        Checks.due("has the word of the struct", 44, () -> x.formed(1));
        Checks.due("and nothing of the longer one", 0, () -> x.formed(2));
    }

    private static void adopting() {
        PointedWords x = Build.message(Build.struct(1, 2, 0), 1, 5, 0);
        for (int s = 1; s < 4; s++) {
            Build.addAll(x, s, 7, 8);
        }
        Checks.due("adopt without a form", false, x.adopt());
        Checks.due("changes nothing", 4, () -> x.words(0));
        x.form();
        x.add(0, 9);
        x.open();
        Checks.due("adopt", true, x.adopt());
        Checks.due("words(0)", 2, () -> x.words(0));
        Checks.due("word(0, 0)", Build.struct(0, 1, 0), () -> x.word(0, 0));
        Checks.due("word(0, 1)", 5, () -> x.word(0, 1));
        Checks.due("word(0, 2)", 0, () -> x.word(0, 2));
        for (int s = 1; s < 4; s++) {
            int segment = s;
            Checks.due("words of another segment", 0, () -> x.words(segment));
            Checks.due("a word of another segment", 0, () -> x.word(segment, 0));
        }
        Checks.due("handles have ended", Checks.NO_SUCH, () -> x.about(0, 0));
        Checks.due("left()", 0, () -> x.left());
        x.change(0, 1, 6);
        Checks.due("the form is not the message", 5, () -> x.formed(1));
        Checks.due("adopt again", true, x.adopt());
        Checks.due("the word as before", 5, () -> x.word(0, 1));
    }

    private static void keeping() {
        PointedWords x = Build.message(Build.struct(0, 2, 0), 5, 0);
        Checks.due("keep without a form", false, x.keep());
        Checks.due("same without any", false, x.same());
        x.form();
        Checks.due("same without one kept", false, x.same());
        Checks.due("keep", true, x.keep());
        Checks.due("same", true, x.same());
        x.change(0, 1, 6);
        Checks.due("same after a change", true, x.same());
        x.form();
        Checks.due("same after a form of another word", false, x.same());
        x.change(0, 1, 5);
        x.change(0, 2, 1);
        x.form();
        Checks.due("same after a longer form", false, x.same());
        Checks.due("keep the longer one", true, x.keep());
        Checks.due("same then", true, x.same());
        x.cut(0, 0);
        Build.addAll(x, 0, Build.struct(1, 2, 1), 9, 5, 1, 0);
        x.form();
        Checks.due("same in another layout", true, x.same());
        x.change(0, 3, 0);
        x.form();
        Checks.due("same after a shorter form", false, x.same());
        x.cut(0, 0);
        Checks.due("a form that fails", Checks.BOUNDS, () -> x.form());
        Checks.due("same is as before", false, x.same());
        Checks.due("keep is of the latest form", true, x.keep());
        Checks.due("same at last", true, x.same());
        long empty = Build.struct(-1, 0, 0);
        PointedWords y = Build.message(empty);
        y.form();
        y.keep();
        Checks.due("same of one word", true, y.same());
        y.change(0, 0, Build.struct(0, 1, 0));
        y.add(0, empty);
        y.form();
        y.keep();
        y.change(0, 0, Build.struct(0, 0, 1));
        y.form();
        Checks.due("the same words, but one is a pointer", false, y.same());
        PointedWords z = Build.message(Build.struct(0, 2, 0), 5, 6);
        z.form();
        z.keep();
        z.change(0, 2, 0);
        z.form();
        z.keep();
        z.change(0, 0, Build.struct(2, 2, 0));
        Build.addAll(z, 0, 5, 7);
        z.form();
        z.change(0, 4, 0);
        z.form();
        Checks.due("what longer forms had does not count", true, z.same());
    }
}
