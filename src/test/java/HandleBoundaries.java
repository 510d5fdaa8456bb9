/** The edges of promises 7 to 13: budget, open, left, and the handles. */
final class HandleBoundaries {
    private static final String GO = "Promise 10: go";
    private static final String ELEMENT = "Promise 11: element";
    private static final String ABOUT = "Promise 12: about";
    private static final String DATA = "Promise 13: data";
    private static final String NO_HANDLE =
            "NoSuchElementException when there is no such handle;";
    private static final int[] BITS = {0, 1, 8, 16, 32, 64};

    private HandleBoundaries() {}

    static void run() {
        Sentences.test("Terms",
                "HANDLES 0 .. 15 stand for objects that were found, in the order in which they were"
                        + " made; at first there are none.",
                HandleBoundaries::sixteen);
        Sentences.test("Terms",
                "Each call add, change, cut or adopt that is not refused ends them all.",
                HandleBoundaries::ended);
        budgetAndOpen();
        going();
        elements();
        parts();
        data();
    }

    private static void budgetAndOpen() {
        Sentences.test("Promise 7: budget", "The budget is so many from now on.",
                HandleBoundaries::budgets);
        Sentences.test("Promise 7: budget", "False when that is not 0 .. 63.",
                HandleBoundaries::noBudgets);
        Sentences.test("Promise 7: budget", "(What is left for handles stays.)",
                HandleBoundaries::leftStays);
        Sentences.test("Promise 8: open",
                "The root is found, with the whole budget left: all handles end, it is handle 0.",
                HandleBoundaries::opened);
        Sentences.test("Promise 8: open", "Answers the number of its words.",
                HandleBoundaries::wordsOfTheRoot);
        Sentences.test("Promise 8: open", "Throws what is said at the root and at finding.",
                HandleBoundaries::notOpened);
        Sentences.test("Promise 9: left",
                "What is left for handles of the latest open() that did not throw; 0 when there are"
                        + " no handles.",
                HandleBoundaries::left);
    }

    private static void going() {
        Sentences.test(GO,
                "Finds what pointer k of a struct or of a list of kind 6 leads to: its handle, or"
                        + " NONE for a null pointer, and for one that a struct does not have (k"
                        + " being at least its p).",
                HandleBoundaries::gone);
        Sentences.test(GO, NO_HANDLE, HandleBoundaries::goWithoutHandle);
        Sentences.test(GO, "UnsupportedOperationException when it is a list of another kind;",
                HandleBoundaries::goFromOthers);
        Sentences.test(GO,
                "IndexOutOfBoundsException when k is negative or the list has no element k;",
                HandleBoundaries::goOutOfBounds);
        Sentences.test(GO,
                "IllegalStateException when the pointer is there and not null, and there are 16"
                        + " handles;",
                HandleBoundaries::goWithSixteen);
        Sentences.test(GO, "and then what finding throws.", HandleBoundaries::goAstray);
    }

    private static void elements() {
        Sentences.test(ELEMENT, "The handle of element k of a list of kind 7; it costs nothing.",
                HandleBoundaries::elementsFound);
        Sentences.test(ELEMENT, NO_HANDLE, HandleBoundaries::elementWithoutHandle);
        Sentences.test(ELEMENT, "UnsupportedOperationException when it is no such list;",
                HandleBoundaries::elementOfOthers);
        Sentences.test(ELEMENT, "IndexOutOfBoundsException when it has no element k;",
                HandleBoundaries::elementOutOfBounds);
        Sentences.test(ELEMENT, "IllegalStateException when there are 16 handles.",
                HandleBoundaries::elementWithSixteen);
    }

    private static void parts() {
        Sentences.test(ABOUT,
                "Of an object: part 0: 0 for a struct, 1 more than its kind for a list;",
                () -> duePart(0, 0, 1, 2, 3, 4, 5, 6, 7, 8, 0, 0));
        Sentences.test(ABOUT, "1: the data words of a struct, the number of elements of a list;",
                () -> duePart(1, 1, 0, 1, 2, 3, 4, 5, 6, 2, 2, 0));
        Sentences.test(ABOUT,
                "2: the pointers of a struct or of an element of a list of kind 7, else 0;",
                () -> duePart(2, 9, 0, 0, 0, 0, 0, 0, 0, 1, 1, 0));
        Sentences.test(ABOUT, "3: the data words of an element of a list of kind 7, else 0;",
                () -> duePart(3, 0, 0, 0, 0, 0, 0, 0, 0, 2, 0, 0));
        Sentences.test(ABOUT, "4, 5: the place where it begins (behind the tag);", () -> {
            duePart(4, 0, 0, 0, 0, 0, 0, 0, 0, 3, 3, 0);
            duePart(5, 1, 17, 17, 17, 17, 17, 11, 11, 2, 5, 17);
        });
        Sentences.test(ABOUT, "6: its depth.",
                () -> duePart(6, 1, 2, 2, 2, 2, 2, 2, 2, 2, 2, 2));
        Sentences.test(ABOUT, NO_HANDLE, HandleBoundaries::aboutWithoutHandle);
        Sentences.test(ABOUT, "IndexOutOfBoundsException when there is no such part.",
                HandleBoundaries::noSuchPart);
    }

    private static void data() {
        Sentences.test(DATA,
                "Data word k of a struct (0 when it has not so many), or element k of a list of"
                        + " kinds 0 .. 5 (without sign, one of 64 bits as it is; 0 for kind 0).",
                HandleBoundaries::dataRead);
        Sentences.test(DATA, NO_HANDLE, HandleBoundaries::dataWithoutHandle);
        Sentences.test(DATA, "UnsupportedOperationException when it is another list;",
                HandleBoundaries::dataOfOthers);
        Sentences.test(DATA,
                "IndexOutOfBoundsException when k is negative or the list has no element k.",
                HandleBoundaries::dataOutOfBounds);
    }

    /** Handles of the root, lists of kinds 7, 6 and 0, and the two elements in turn: 16 in all. */
    private static PointedWords crowded() {
        PointedWords x = Build.message(Build.struct(0, 0, 6), Build.list(6, 7, 2), 0, 3,
                Build.list(2, 6, 1), Build.struct(99, 0, 0), Build.list(2, 0, 1), 0,
                Build.tag(2, 1, 0), 50, 51);
        x.open();
        x.go(0, 0);
        x.go(0, 3);
        x.go(0, 5);
        for (int h = 4; h < 16; h++) {
            x.element(1, h % 2);
        }
        return x;
    }

    private static void sixteen() {
        Checks.due("none at first", Checks.NO_SUCH, () -> new PointedWords().about(0, 0));
        PointedWords x = Build.message(Build.struct(0, 1, 2), 5, Build.struct(-1, 0, 0),
                Build.list(0, 7, 1), Build.tag(1, 1, 0), 9);
        x.open();
        for (int h = 1; h < 16; h++) {
            int handle = h;
            Checks.due("handle " + h + " before", Checks.NO_SUCH, () -> x.about(handle, 0));
            // Two are lists, two are structs with a word of 9, the others are without words.
            boolean list = h % 8 == 3;
            boolean element = h % 8 == 4;
            Checks.due("the next handle", handle,
                    () -> element ? x.element(handle - 1, 0) : x.go(0, list ? 1 : 0));
        }
        for (int h = 1; h < 16; h++) {
            int handle = h;
            Checks.due("shape of " + h, h % 8 == 3 ? 8 : 0, () -> x.about(handle, 0));
            Checks.due("words of " + h, h % 8 == 3 || h % 8 == 4 ? 1 : 0,
                    () -> x.about(handle, 1));
        }
        Checks.due("handle 0", 5, () -> x.data(0, 0));
        Checks.due("handle 16", Checks.NO_SUCH, () -> x.about(16, 0));
        handlesUsedAgain();
    }

    /** A handle tells nothing of what it stood for before the latest open(). */
    private static void handlesUsedAgain() {
        PointedWords x = Build.message(Build.struct(0, 0, 3), Build.list(3, 7, 3),
                Build.list(0, 5, 1), Build.struct(0, 1, 0), 5, Build.tag(1, 2, 1), 6, 7, 0);
        int[][] due = {{8, 1, 1, 2, 0, 6, 2}, {6, 1, 0, 0, 0, 3, 2}, {0, 1, 0, 0, 0, 4, 2}};
        for (int before = 0; before < 3; before++) {
            for (int k = 0; k < 3; k++) {
                x.open();
                x.go(0, before);
                x.go(0, before);
                x.open();
                x.go(0, k);
                Expect.parts("pointer " + k + " after " + before, x, 1, due[k]);
                if (k == 0) {
                    x.element(1, 0);
                    Expect.parts("an element after " + before, x, 2, 0, 2, 1, 0, 0, 6, 2);
                }
            }
        }
    }

    private static PointedWords openedWithForm() {
        PointedWords x = Build.message(Build.struct(0, 1, 1), 5, Build.struct(-1, 0, 0));
        x.form();
        x.open();
        x.go(0, 0);
        return x;
    }

    private static void dueEnded(String what, boolean ended, PointedWords x) {
        for (int h = 0; h < 2; h++) {
            int handle = h;
            Checks.due("handle " + h + " after " + what, ended ? Checks.NO_SUCH : "0",
                    () -> x.about(handle, 0));
        }
        Checks.due("left() after " + what, ended ? 0 : 60, () -> x.left());
    }

    private static void ended() {
        PointedWords added = openedWithForm();
        added.add(3, 0);
        dueEnded("add to another segment", true, added);
        PointedWords changed = openedWithForm();
        changed.change(0, 1, 5);
        dueEnded("change to the same word", true, changed);
        PointedWords cut = openedWithForm();
        cut.cut(3, 0);
        dueEnded("cut that takes nothing away", true, cut);
        PointedWords adopted = openedWithForm();
        adopted.adopt();
        dueEnded("adopt", true, adopted);
        PointedWords x = openedWithForm();
        x.add(4, 0);
        dueEnded("a refused add", false, x);
        x.change(0, 3, 0);
        dueEnded("a refused change", false, x);
        x.cut(0, 4);
        dueEnded("a refused cut", false, x);
        x.budget(9);
        x.form();
        x.keep();
        x.same();
        dueEnded("other calls", false, x);
        PointedWords without = Build.message(Build.struct(0, 1, 1), 5, Build.struct(-1, 0, 0));
        without.open();
        without.go(0, 0);
        without.adopt();
        dueEnded("a refused adopt", false, without);
        PointedWords full = Build.upTo(64, Build.message(Build.struct(-1, 0, 1)), 0);
        full.open();
        full.add(0, 1);
        Checks.due("handle 0 after a refused 65th word", 0, () -> full.about(0, 0));
    }

    private static void budgets() {
        PointedWords x = Build.upTo(64, Build.message(Build.struct(0, 63, 0)), 0);
        for (int words : new int[] {0, 1, 62}) {
            Checks.due("budget(" + words + ")", true, x.budget(words));
            Expect.refusedRoot("63 words for " + words, Checks.STATE, x);
        }
        Checks.due("budget(63)", true, x.budget(63));
        Checks.due("63 words for 63", 63, () -> x.open());
        x.change(0, 0, Build.struct(-1, 0, 0));
        x.budget(1);
        Checks.due("no words for 1", 0, () -> x.open());
        x.budget(0);
        Checks.due("no words for 0", Checks.STATE, () -> x.open());
        Checks.due("the form for 0", Checks.STATE, () -> x.form());
    }

    private static void noBudgets() {
        PointedWords x = Build.message(Build.struct(0, 2, 0), 5, 6);
        x.budget(2);
        for (int words : new int[] {-1, 64, 65, -63, Integer.MIN_VALUE, Integer.MAX_VALUE}) {
            Checks.due("budget(" + words + ")", false, x.budget(words));
        }
        Checks.due("it is 2", 2, () -> x.open());
        Checks.due("and no more", 0, () -> x.left());
        x.change(0, 0, Build.struct(-1, 3, 0));
        Checks.due("3 words", Checks.STATE, () -> x.open());
    }

    private static void leftStays() {
        PointedWords x = Build.message(Build.struct(0, 0, 1), Build.list(0, 0, 30));
        x.open();
        Checks.due("budget(0)", true, x.budget(0));
        Checks.due("left()", 62, () -> x.left());
        Checks.due("more than the budget", 1, () -> x.go(0, 0));
        Checks.due("left() then", 32, () -> x.left());
        Checks.due("budget(63)", true, x.budget(63));
        Checks.due("left() as before", 32, () -> x.left());
        x.go(0, 0);
        Checks.due("more than is left", Checks.STATE, () -> x.go(0, 0));
    }

    private static void opened() {
        PointedWords x = crowded();
        Checks.due("open() with 16 handles", 6, () -> x.open());
        for (int h = 1; h < 16; h++) {
            int handle = h;
            Checks.due("handle " + h, Checks.NO_SUCH, () -> x.about(handle, 0));
        }
        Expect.parts("handle 0", x, 0, 0, 0, 6, 0, 0, 1, 1);
        Checks.due("the whole budget but 6", 57, () -> x.left());
        Checks.due("the next handle", 1, () -> x.go(0, 0));
        x.budget(6);
        Checks.due("open() for all of it", 6, () -> x.open());
        Checks.due("nothing is left", 0, () -> x.left());
    }

    private static void wordsOfTheRoot() {
        Checks.due("none", 0, () -> Build.message(Build.struct(-1, 0, 0)).open());
        Checks.due("a data word", 1, () -> Build.message(Build.struct(0, 1, 0), 0).open());
        Checks.due("a pointer", 1, () -> Build.message(Build.struct(0, 0, 1), 3).open());
        PointedWords x = Build.upTo(64, Build.message(Build.struct(0, 31, 32)), 0);
        Checks.due("63 in all", 63, () -> x.open());
        Checks.due("words of 0 count", 3,
                () -> Build.message(Build.struct(0, 2, 1), 0, 0, 0).open());
    }

    private static void notOpened() {
        Checks.due("no word", Checks.BOUNDS, () -> new PointedWords().open());
        Checks.due("null", Checks.NO_SUCH, () -> Build.message(0).open());
        Checks.due("a list", Checks.ARGUMENT, () -> Build.message(1).open());
        Checks.due("bits 3", Checks.ARGUMENT, () -> Build.message(3).open());
        Checks.due("no pad", Checks.BOUNDS, () -> Build.message(Build.far(1, 0)).open());
        Checks.due("half a pad", Checks.BOUNDS, () -> Build.message(Build.farOfTwo(0, 0)).open());
        Checks.due("a far pad", Checks.ARGUMENT, () -> Build.message(Build.far(0, 0)).open());
        Checks.due("a null pad", Checks.ARGUMENT, () -> Build.message(Build.far(0, 1), 0).open());
        Checks.due("a word too many", Checks.BOUNDS,
                () -> Build.message(Build.struct(0, 2, 0), 5).open());
        Checks.due("before word 0", Checks.BOUNDS,
                () -> Build.message(Build.struct(-2, 0, 0)).open());
        Checks.due("a tag that is none", Checks.ARGUMENT,
                () -> Build.message(Build.list(0, 7, 0), 3).open());
        PointedWords dear = Build.upTo(64, Build.message(Build.struct(-1, 64, 0)), 0);
        Checks.due("64 words", Checks.STATE, () -> dear.open());
    }

    private static void left() {
        PointedWords x = Build.message(Build.struct(0, 1, 0), 5);
        Checks.due("before any open()", 0, () -> x.left());
        x.open();
        Checks.due("after open()", 62, () -> x.left());
        x.budget(0);
        Checks.due("an open() that throws", Checks.STATE, () -> x.open());
        Checks.due("what was left", 62, () -> x.left());
        x.budget(1);
        x.open();
        Checks.due("0 with a handle", 0, () -> x.left());
        x.budget(63);
        x.open();
        x.change(0, 0, 0);
        Checks.due("no handles", 0, () -> x.left());
        Checks.due("open() of null", Checks.NO_SUCH, () -> x.open());
        Checks.due("no handles yet", 0, () -> x.left());
    }

    private static void gone() {
        PointedWords x = Build.message(Build.struct(0, 1, 3), -1, Build.list(3, 6, 3), 0,
                Build.struct(0, 1, 0), 7, Build.list(2, 5, 1), 0, Build.struct(-1, 0, 0), 8, 3);
        x.open();
        Checks.due("the first of a struct", 1, () -> x.go(0, 0));
        Checks.due("a null pointer of a struct", PointedWords.NONE, () -> x.go(0, 1));
        Checks.due("the last of a struct", 2, () -> x.go(0, 2));
        for (int k : new int[] {3, 4, 63, 65535, 65536, Integer.MAX_VALUE}) {
            Checks.due("pointer " + k + " of 3", PointedWords.NONE, () -> x.go(0, k));
        }
        Checks.due("of a struct without pointers", PointedWords.NONE, () -> x.go(2, 0));
        Checks.due("the first of a list", 3, () -> x.go(1, 0));
        Checks.due("a null pointer of a list", PointedWords.NONE, () -> x.go(1, 1));
        Checks.due("the last of a list", 4, () -> x.go(1, 2));
        Checks.due("the first of a list leads to", 8, () -> x.data(3, 0));
        Checks.due("the last of a list leads to", 0, () -> x.about(4, 1));
        Checks.due("the last of a struct leads to", 7, () -> x.data(2, 0));
        Checks.due("no more is taken", 63 - 4 - 3 - 1 - 1 - 1, () -> x.left());
        Checks.due("no more handles", Checks.NO_SUCH, () -> x.about(5, 0));
    }

    /** A call of a handle that is not there, with numbers that would be right or wrong. */
    private interface HandleCall {
        long answer(PointedWords x, int handle, int k);
    }

    private static void dueNoHandle(HandleCall call) {
        PointedWords x = Build.message(Build.struct(0, 1, 0), 5);
        Checks.due("handle 0 before open()", Checks.NO_SUCH, () -> call.answer(x, 0, 0));
        x.open();
        for (int h : new int[] {1, 15, 16, -1, Integer.MIN_VALUE, Integer.MAX_VALUE}) {
            for (int k : new int[] {0, -1, 99}) {
                Checks.due("handle " + h + ", " + k, Checks.NO_SUCH, () -> call.answer(x, h, k));
            }
        }
        x.cut(0, 1);
        Checks.due("handle 0 that has ended", Checks.NO_SUCH, () -> call.answer(x, 0, 0));
        PointedWords full = crowded();
        Checks.due("handle 16 of 16", Checks.NO_SUCH, () -> call.answer(full, 16, 0));
    }

    private static void goWithoutHandle() {
        dueNoHandle((x, handle, k) -> x.go(handle, k));
    }

    /** A list of the kind, with an element, behind handle 1. */
    private static PointedWords withList(int kind) {
        PointedWords x = Build.behindRoot(Build.list(0, kind, 1), Build.tag(1, 0, 1), 0, 0);
        x.open();
        x.go(0, 0);
        Checks.due("the list of kind " + kind, kind + 1, () -> x.about(1, 0));
        return x;
    }

    private static void goFromOthers() {
        for (int kind : new int[] {0, 1, 2, 3, 4, 5, 7}) {
            PointedWords x = withList(kind);
            for (int k : new int[] {0, 1, -1, Integer.MIN_VALUE, Integer.MAX_VALUE}) {
                Checks.due("kind " + kind + ", " + k, Checks.UNSUPPORTED, () -> x.go(1, k));
            }
        }
        PointedWords x = withList(6);
        Checks.due("kind 6 is not another", 2, () -> x.go(1, 0));
    }

    private static void goOutOfBounds() {
        PointedWords x = Build.message(Build.struct(0, 0, 2), Build.list(1, 6, 0),
                Build.list(0, 6, 2), 0, 0, Build.struct(-1, 0, 0));
        x.open();
        x.go(0, 0);
        x.go(0, 1);
        for (int h = 0; h < 3; h++) {
            int handle = h;
            Checks.due("-1 of handle " + h, Checks.BOUNDS, () -> x.go(handle, -1));
            Checks.due("the least of handle " + h, Checks.BOUNDS,
                    () -> x.go(handle, Integer.MIN_VALUE));
        }
        Checks.due("0 of an empty list", Checks.BOUNDS, () -> x.go(1, 0));
        Checks.due("the last of 2", PointedWords.NONE, () -> x.go(2, 1));
        Checks.due("2 of 2, where a pointer is", Checks.BOUNDS, () -> x.go(2, 2));
        Checks.due("the most of 2", Checks.BOUNDS, () -> x.go(2, Integer.MAX_VALUE));
    }

    private static void goWithSixteen() {
        PointedWords x = crowded();
        Checks.due("one that could be found", Checks.STATE, () -> x.go(0, 0));
        Checks.due("one of bits 3", Checks.STATE, () -> x.go(0, 2));
        Checks.due("one out of bounds", Checks.STATE, () -> x.go(0, 4));
        Checks.due("null", PointedWords.NONE, () -> x.go(0, 1));
        Checks.due("one that is not there", PointedWords.NONE, () -> x.go(0, 6));
        Checks.due("one of an element", PointedWords.NONE, () -> x.go(15, 0));
        PointedWords fifteen = Build.message(Build.struct(0, 0, 1), Build.list(0, 0, 0));
        fifteen.open();
        for (int h = 1; h < 16; h++) {
            int handle = h;
            Checks.due("the handle with " + h + " before", handle, () -> fifteen.go(0, 0));
        }
        Checks.due("the handle with 16 before", Checks.STATE, () -> fifteen.go(0, 0));
        Checks.due("what is left stays", 47, () -> fifteen.left());
        PointedWords list = Build.behindRoot(Build.list(0, 6, 2), Build.struct(-1, 0, 0), 0);
        list.open();
        list.go(0, 0);
        for (int h = 2; h < 16; h++) {
            list.go(1, 0);
        }
        Checks.due("one of a list", Checks.STATE, () -> list.go(1, 0));
        Checks.due("null of a list", PointedWords.NONE, () -> list.go(1, 1));
    }

    private static void goAstray() {
        PointedWords x = Build.message(Build.struct(0, 0, 7), 3, Build.far(2, 0),
                Build.struct(99, 0, 0), Build.list(3, 7, 0), Build.list(0, 0, 57),
                Build.list(0, 0, 56), Build.far(0, 0), 3);
        String[] due = {Checks.ARGUMENT, Checks.BOUNDS, Checks.BOUNDS, Checks.ARGUMENT,
            Checks.STATE, "1", Checks.STATE};
        x.open();
        for (int k = 0; k < due.length; k++) {
            int number = k;
            Checks.due("pointer " + k, due[k], () -> x.go(0, number));
        }
    }

    private static void elementsFound() {
        PointedWords x = Build.behindRoot(Build.list(0, 7, 7), Build.tag(3, 1, 1),
                10, 0, 11, 0, 12, 0, 99);
        x.budget(9);
        x.open();
        x.go(0, 0);
        Checks.due("nothing is left", 0, () -> x.left());
        Checks.due("the first", 2, () -> x.element(1, 0));
        Checks.due("the last", 3, () -> x.element(1, 2));
        Checks.due("the last again", 4, () -> x.element(1, 2));
        Expect.parts("the first", x, 2, 0, 1, 1, 0, 0, 3, 2);
        Expect.parts("the last", x, 4, 0, 1, 1, 0, 0, 7, 2);
        Checks.due("its data", 12, () -> x.data(4, 0));
        Checks.due("it costs nothing", 0, () -> x.left());
        PointedWords many = Build.behindRoot(Build.list(0, 7, 0), Build.tag(61, 0, 0));
        many.open();
        many.go(0, 0);
        Checks.due("the last of 61 without words", 2, () -> many.element(1, 60));
        Expect.parts("it", many, 2, 0, 0, 0, 0, 0, 3, 2);
    }

    private static void elementWithoutHandle() {
        dueNoHandle((x, handle, k) -> x.element(handle, k));
    }

    private static void elementOfOthers() {
        for (int kind = 0; kind < 7; kind++) {
            PointedWords x = withList(kind);
            for (int k : new int[] {0, 1, -1, Integer.MAX_VALUE}) {
                Checks.due("kind " + kind + ", " + k, Checks.UNSUPPORTED, () -> x.element(1, k));
            }
        }
        PointedWords x = withList(7);
        Checks.due("a struct", Checks.UNSUPPORTED, () -> x.element(0, 0));
        Checks.due("kind 7 is such a list", 2, () -> x.element(1, 0));
        Checks.due("an element", Checks.UNSUPPORTED, () -> x.element(2, 0));
    }

    private static void elementOutOfBounds() {
        PointedWords x = Build.message(Build.struct(0, 0, 2), Build.list(1, 7, 0),
                Build.list(1, 7, 3), Build.tag(0, 1, 0), Build.tag(2, 1, 0), 5, 6, 7);
        x.open();
        x.go(0, 0);
        x.go(0, 1);
        Checks.due("the last of 2", 3, () -> x.element(2, 1));
        Checks.due("2 of 2, where a word is", Checks.BOUNDS, () -> x.element(2, 2));
        Checks.due("0 of none", Checks.BOUNDS, () -> x.element(1, 0));
        for (int k : Expect.FAR_OFF) {
            Checks.due("element " + k, Checks.BOUNDS, () -> x.element(2, k));
        }
        Checks.due("no handles were made", Checks.NO_SUCH, () -> x.about(4, 0));
    }

    private static void elementWithSixteen() {
        PointedWords x = crowded();
        Checks.due("the 16th handle", 51, () -> x.data(15, 0));
        Checks.due("a 17th", Checks.STATE, () -> x.element(1, 0));
        Checks.due("the 16th stays", 51, () -> x.data(15, 0));
        x.open();
        x.go(0, 0);
        Checks.due("free after open()", 2, () -> x.element(1, 0));
    }

    /**
     * Handles of the root (0), lists of kinds 0 .. 6 with as many elements as their kind (1 .. 7),
     * a far list of two structs (8), the last one of them (9) and a struct without words (10).
     */
    private static PointedWords ofAllKinds() {
        PointedWords x = Build.message(Build.struct(0, 1, 9), 5);
        for (int kind = 0; kind < 5; kind++) {
            x.add(0, Build.list(14 - kind, kind, kind));
        }
        Build.addAll(x, 0, Build.list(3, 5, 5), Build.list(2, 6, 6), Build.far(3, 0),
                Build.struct(6, 0, 0), 1, 2, 3, 4, 5, 0);
        Build.addAll(x, 3, Build.list(0, 7, 6), Build.tag(2, 2, 1), 1, 2, 0, 3, 4, 0);
        // Where the lists of kinds 0 .. 4 and the struct without words begin.
        Build.addAll(x, 0, 7, 7);
        x.open();
        for (int k = 0; k < 8; k++) {
            x.go(0, k);
        }
        x.element(8, 1);
        x.go(0, 8);
        return x;
    }

    private static void duePart(int part, int... due) {
        PointedWords x = ofAllKinds();
        for (int h = 0; h < due.length; h++) {
            int handle = h;
            Checks.due("part " + part + " of handle " + h, due[h], () -> x.about(handle, part));
        }
    }

    private static void aboutWithoutHandle() {
        dueNoHandle((x, handle, k) -> x.about(handle, k));
    }

    private static void noSuchPart() {
        PointedWords x = ofAllKinds();
        for (int h = 0; h < 11; h++) {
            int handle = h;
            for (int part : new int[] {-1, 7, 8, Integer.MIN_VALUE, Integer.MAX_VALUE}) {
                Checks.due("part " + part + " of handle " + h, Checks.BOUNDS,
                        () -> x.about(handle, part));
            }
        }
    }

    private static void dataRead() {
        PointedWords x = Build.message(Build.struct(0, 2, 1), Long.MIN_VALUE, -1, 4);
        x.open();
        Checks.due("the first word", Long.MIN_VALUE, () -> x.data(0, 0));
        Checks.due("the last word", -1, () -> x.data(0, 1));
        for (int k : new int[] {2, 3, 63, 65536, Integer.MAX_VALUE}) {
            Checks.due("word " + k + " of 2", 0, () -> x.data(0, k));
        }
        for (int kind = 1; kind < 6; kind++) {
            int inOne = 64 / BITS[kind];
            long most = BITS[kind] == 64 ? -1L : (1L << BITS[kind]) - 1;
            PointedWords list = Build.behindRoot(Build.list(0, kind, 3 * inOne), -1, 0, -1);
            list.open();
            list.go(0, 0);
            int[] ks = {0, inOne - 1, inOne, 2 * inOne - 1, 2 * inOne, 3 * inOne - 1};
            for (int k : ks) {
                Checks.due("kind " + kind + ", element " + k, k / inOne == 1 ? 0 : most,
                        () -> list.data(1, k));
            }
        }
        PointedWords none = Build.behindRoot(Build.list(0, 0, 62));
        none.open();
        none.go(0, 0);
        Checks.due("the first of kind 0", 0, () -> none.data(1, 0));
        Checks.due("the last of kind 0", 0, () -> none.data(1, 61));
        PointedWords bits = Build.upTo(64, Build.behindRoot(Build.list(0, 1, 62 * 64)), 0);
        bits.change(0, 63, Long.MIN_VALUE);
        bits.open();
        bits.go(0, 0);
        Checks.due("the last of the most bits", 1, () -> bits.data(1, 62 * 64 - 1));
        Checks.due("the last but one", 0, () -> bits.data(1, 62 * 64 - 2));
    }

    private static void dataWithoutHandle() {
        dueNoHandle((x, handle, k) -> x.data(handle, k));
    }

    private static void dataOfOthers() {
        for (int kind = 6; kind < 8; kind++) {
            PointedWords x = withList(kind);
            for (int k : new int[] {0, 1, -1, Integer.MIN_VALUE, Integer.MAX_VALUE}) {
                Checks.due("kind " + kind + ", " + k, Checks.UNSUPPORTED, () -> x.data(1, k));
            }
        }
    }

    private static void dataOutOfBounds() {
        PointedWords x = Build.message(Build.struct(0, 1, 0), 5);
        x.open();
        Checks.due("word -1", Checks.BOUNDS, () -> x.data(0, -1));
        Checks.due("the least word", Checks.BOUNDS, () -> x.data(0, Integer.MIN_VALUE));
        for (int kind = 0; kind < 6; kind++) {
            PointedWords list = Build.behindRoot(Build.list(0, kind, 1), -1, -1);
            list.open();
            list.go(0, 0);
            // Element 1 would be in words that are there.
            Checks.due("kind " + kind + ", 1 of 1", Checks.BOUNDS, () -> list.data(1, 1));
            for (int k : Expect.FAR_OFF) {
                Checks.due("kind " + kind + ", " + k, Checks.BOUNDS, () -> list.data(1, k));
            }
            PointedWords empty = Build.behindRoot(Build.list(0, kind, 0), -1);
            empty.open();
            empty.go(0, 0);
            Checks.due("kind " + kind + ", 0 of none", Checks.BOUNDS, () -> empty.data(1, 0));
        }
    }
}
