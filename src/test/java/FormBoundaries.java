/** The edges of the canonical form and of promises 14 to 18. */
final class FormBoundaries {
    private static final String TERMS = "Terms";
    private static final long ROOT = Build.struct(0, 0, 1);
    private static final long EMPTY = Build.struct(-1, 0, 0);

    private FormBoundaries() {}

    static void run() {
        writing();
        objects();
        promises();
    }

    private static void writing() {
        Sentences.test(TERMS,
                "THE CANONICAL FORM is a row of words, made with the whole budget, apart from what"
                        + " is left for handles: word 0 is the pointer for the root, and the root"
                        + " is WRITTEN for it.",
                FormBoundaries::wholeBudget);
        Sentences.test(TERMS,
                "To write for a word of the form what a pointer of the message leads to: for a null"
                        + " pointer the word is 0.",
                FormBoundaries::nullPointers);
        Sentences.test(TERMS,
                "Else the object is found; as many words as it needs are put behind those that the"
                        + " form has, the word becomes the struct or list pointer that leads to"
                        + " them, and they become what the object has; then, for its pointers in"
                        + " their order, what they lead to is written for their words, each with"
                        + " all that it leads to before the next one.",
                FormBoundaries::order);
    }

    private static void objects() {
        Sentences.test(TERMS,
                "A struct has d data words without those at its end that are 0, and p pointers"
                        + " without those at its end that are null; for a struct without words left"
                        + " b is -1.",
                FormBoundaries::structs);
        Sentences.test(TERMS,
                "A list of kinds 0 .. 5 has the same kind and elements, and 0 in bits that are no"
                        + " element's;",
                FormBoundaries::flatLists);
        Sentences.test(TERMS, "of kind 6 the same number of pointers.",
                FormBoundaries::pointerLists);
        Sentences.test(TERMS,
                "A list of kind 7 has as many elements; d is the greatest number of data words that"
                        + " one of its elements has without those of 0 at its end, p likewise with"
                        + " null pointers; n is m * (d + p).",
                FormBoundaries::structLists);
        Sentences.test(TERMS,
                "(b is such that the first word put is meant; for lists without words the one that"
                        + " would come next.)",
                FormBoundaries::offsets);
    }

    private static void promises() {
        Sentences.test("Promise 14: form", "Makes the canonical form: the number of its words.",
                FormBoundaries::numberOfWords);
        Sentences.test("Promise 14: form",
                "Throws what is said at the root and at finding (there is no new form then).",
                FormBoundaries::notFormed);
        Sentences.test("Promise 15: formed", "Word i of the latest form; 0 when there is none.",
                FormBoundaries::formedWords);
        Sentences.test("Promise 15: formed", "(Forms stay when the message changes.)",
                FormBoundaries::formsStay);
        Sentences.test("Promise 16: adopt",
                "The message becomes the latest form, as segment 0; the other segments have no"
                        + " words.",
                FormBoundaries::adopted);
        Sentences.test("Promise 16: adopt", "False when there is no form.",
                FormBoundaries::notAdopted);
        Sentences.test("Promise 17: keep", "The latest form is kept, in place of one that was.",
                FormBoundaries::kept);
        Sentences.test("Promise 17: keep", "False when there is no form.", FormBoundaries::notKept);
        Sentences.test("Promise 18: same",
                "Whether the latest form and the one that is kept are the same;",
                FormBoundaries::sameForms);
        Sentences.test("Promise 18: same", "false, too, when one is not there.",
                FormBoundaries::notThere);
    }

    private static void wholeBudget() {
        PointedWords x = Build.behindRoot(Build.list(0, 0, 62));
        x.open();
        x.go(0, 0);
        Checks.due("nothing is left for handles", 0, () -> x.left());
        Expect.form("all of the budget, though", x, ROOT, Build.list(0, 0, 62));
        Checks.due("left() stays", 0, () -> x.left());
        Checks.due("handles stay", 62, () -> x.about(1, 1));
        x.budget(62);
        Checks.due("a budget of 1 less", Checks.STATE, () -> x.form());
        PointedWords y = Build.message(Build.struct(0, 1, 0), 5);
        y.budget(1);
        y.open();
        y.form();
        Checks.due("a form again has it all again", 2, () -> y.form());
        Checks.due("left() after forms", 0, () -> y.left());
        y.budget(0);
        Checks.due("no budget", Checks.STATE, () -> y.form());
        y.budget(63);
        y.open();
        y.form();
        Checks.due("a form takes nothing from what is left", 62, () -> y.left());
        Expect.form("the root alone", Build.message(Build.struct(1, 0, 0), 7), EMPTY);
        PointedWords far = Build.message(Build.far(3, 0));
        Build.addAll(far, 3, Build.struct(1, 1, 0), 6, 7);
        Expect.form("a far root", far, Build.struct(0, 1, 0), 7);
    }

    private static void nullPointers() {
        Expect.form("before others of a struct",
                Build.message(Build.struct(0, 0, 2), 0, EMPTY),
                Build.struct(0, 0, 2), 0, EMPTY);
        Expect.form("in a list", Build.behindRoot(Build.list(0, 6, 3), 0, EMPTY, 0),
                ROOT, Build.list(0, 6, 3), 0, EMPTY, 0);
        Expect.form("in elements",
                Build.behindRoot(Build.list(0, 7, 2), Build.tag(2, 0, 1), 0, EMPTY),
                ROOT, Build.list(0, 7, 2), Build.tag(2, 0, 1), 0, EMPTY);
        PointedWords free = Build.behindRoot(Build.list(0, 6, 2), 0, 0);
        free.budget(3);
        Checks.due("it costs nothing", 4, () -> free.form());
    }

    private static void order() {
        // All below the first pointer comes before what the second one leads to.
        Expect.form("a tree",
                Build.message(Build.struct(0, 0, 2), Build.struct(4, 0, 2), Build.struct(0, 2, 0),
                        31, 32, 0, Build.list(1, 5, 1), Build.struct(1, 1, 0), 33, 34),
                Build.struct(0, 0, 2), Build.struct(1, 0, 2), Build.struct(4, 2, 0),
                Build.list(1, 5, 1), Build.struct(1, 1, 0), 33, 34, 31, 32);
        // What two pointers lead to is written for both.
        Expect.form("the same twice",
                Build.message(Build.struct(0, 0, 2), Build.list(1, 5, 1), Build.list(0, 5, 1), 9),
                Build.struct(0, 0, 2), Build.list(1, 5, 1), Build.list(1, 5, 1), 9, 9);
        // The words of all elements come before what the first of them leads to.
        Expect.form("elements",
                Build.behindRoot(Build.list(0, 7, 4), Build.tag(2, 1, 1),
                        1, Build.list(2, 5, 1), 2, Build.list(1, 5, 1), 8, 9),
                ROOT, Build.list(0, 7, 4), Build.tag(2, 1, 1),
                1, Build.list(2, 5, 1), 2, Build.list(1, 5, 1), 8, 9);
        PointedWords far = Build.message(Build.struct(0, 0, 2), Build.far(1, 2),
                Build.list(0, 5, 1), 5);
        Build.addAll(far, 1, Build.far(2, 0), Build.list(0, 6, 1), Build.struct(0, 1, 1), 6,
                Build.farOfTwo(1, 0));
        Build.addAll(far, 2, Build.struct(0, 1, 0), 7);
        Expect.form("far ones are near", far,
                Build.struct(0, 0, 2), Build.struct(1, 1, 1), Build.list(4, 5, 1),
                6, Build.list(0, 6, 1), Build.struct(0, 1, 0), 7, 5);
        Checks.due("the first that is wrong", Checks.ARGUMENT,
                () -> Build.message(Build.struct(0, 0, 2), 3, Build.struct(99, 0, 0)).form());
        Checks.due("the other one first", Checks.BOUNDS,
                () -> Build.message(Build.struct(0, 0, 2), Build.struct(99, 0, 0), 3).form());
        Checks.due("what is below the first one", Checks.ARGUMENT,
                () -> Build.message(Build.struct(0, 0, 2), Build.struct(1, 0, 1),
                        Build.struct(99, 0, 0), 3).form());
        Checks.due("too dear, then wrong", Checks.STATE,
                () -> Build.message(Build.struct(0, 0, 2), Build.list(0, 0, 62), 3).form());
    }

    private static void structs() {
        Expect.form("no words", Build.message(Build.struct(1, 0, 0), 7), EMPTY);
        Expect.form("data of 0", Build.message(Build.struct(0, 2, 0), 0, 0), EMPTY);
        Expect.form("null pointers", Build.message(Build.struct(0, 0, 2), 0, 0), EMPTY);
        Expect.form("both", Build.message(Build.struct(0, 1, 1), 0, 0), EMPTY);
        Expect.form("nothing to leave out", Build.message(Build.struct(0, 2, 1), 0, 5, EMPTY),
                Build.struct(0, 2, 1), 0, 5, EMPTY);
        Expect.form("the last data word", Build.message(Build.struct(0, 3, 0), 0, 5, 0),
                Build.struct(0, 2, 0), 0, 5);
        Expect.form("all data, no pointer", Build.message(Build.struct(0, 2, 2), 0, 0, 0, EMPTY),
                Build.struct(0, 0, 2), 0, EMPTY);
        Expect.form("all pointers, no data", Build.message(Build.struct(0, 2, 2), 4, 5, 0, 0),
                Build.struct(0, 2, 0), 4, 5);
        Expect.form("some of both", Build.message(Build.struct(0, 2, 2), 4, 0, EMPTY, 0),
                Build.struct(0, 1, 1), 4, EMPTY);
        Expect.form("a data word of the highest bit",
                Build.message(Build.struct(0, 2, 0), 0, Long.MIN_VALUE),
                Build.struct(0, 2, 0), 0, Long.MIN_VALUE);
        // Wherever it stands, and where its words were left out.
        Expect.form("a pointer to a struct without words left",
                Build.message(Build.struct(0, 0, 3), Build.struct(2, 1, 0), Build.list(1, 5, 1),
                        Build.struct(0, 0, 1), 0),
                Build.struct(0, 0, 3), EMPTY, Build.list(1, 5, 1), EMPTY, 0);
        PointedWords most = Build.message(Build.struct(0, 0, 63));
        for (int i = 1; i < 64; i++) {
            most.add(0, 0);
        }
        Expect.form("63 null pointers", most, EMPTY);
        most.change(0, 0, Build.struct(0, 63, 0));
        Expect.form("63 data words of 0", most, EMPTY);
        most.change(0, 63, 1);
        Checks.due("62 of them and another one", 64, () -> most.form());
    }

    private static void dueFlat(int kind, int n, long... words) {
        long[] form = new long[2 + words.length];
        form[0] = ROOT;
        form[1] = Build.list(0, kind, n);
        System.arraycopy(words, 0, form, 2, words.length);
        PointedWords x = Build.behindRoot(Build.list(1, kind, n), 7, -1, -1, -1);
        Expect.form("kind " + kind + ", " + n + " elements", x, form);
    }

    private static void flatLists() {
        dueFlat(0, 0);
        dueFlat(0, 1);
        dueFlat(0, 62);
        int[] bits = {0, 1, 8, 16, 32};
        for (int kind = 1; kind < 5; kind++) {
            int inOne = 64 / bits[kind];
            long one = (1L << bits[kind]) - 1;
            long butOne = -1L >>> bits[kind];
            dueFlat(kind, 0);
            dueFlat(kind, 1, one);
            dueFlat(kind, inOne - 1, butOne);
            dueFlat(kind, inOne, -1);
            dueFlat(kind, inOne + 1, -1, one);
            dueFlat(kind, 2 * inOne - 1, -1, butOne);
            dueFlat(kind, 2 * inOne, -1, -1);
            dueFlat(kind, 2 * inOne + 1, -1, -1, one);
        }
        dueFlat(5, 0);
        dueFlat(5, 1, -1);
        dueFlat(5, 3, -1, -1, -1);
        Expect.form("elements of 0 stay", Build.behindRoot(Build.list(0, 5, 2), 0, 0),
                ROOT, Build.list(0, 5, 2), 0, 0);
    }

    private static void pointerLists() {
        Expect.form("none", Build.behindRoot(Build.list(-2, 6, 0)), ROOT, Build.list(0, 6, 0));
        Expect.form("null alone", Build.behindRoot(Build.list(0, 6, 1), 0),
                ROOT, Build.list(0, 6, 1), 0);
        Expect.form("null at the end", Build.behindRoot(Build.list(0, 6, 2), EMPTY, 0),
                ROOT, Build.list(0, 6, 2), EMPTY, 0);
        PointedWords most = Build.behindRoot(Build.list(0, 6, 62));
        for (int i = 2; i < 64; i++) {
            most.add(0, 0);
        }
        Checks.due("62 of them", 64, () -> most.form());
        Checks.due("their pointer", Build.list(0, 6, 62), () -> most.formed(1));
    }

    private static void structLists() {
        Expect.form("no elements", Build.behindRoot(Build.list(0, 7, 1), Build.tag(0, 9, 9), 5),
                ROOT, Build.list(0, 7, 0), Build.tag(0, 0, 0));
        Expect.form("the most elements",
                Build.behindRoot(Build.list(0, 7, 0), Build.tag(61, 0, 0)),
                ROOT, Build.list(0, 7, 0), Build.tag(61, 0, 0));
        Expect.form("elements of 0",
                Build.behindRoot(Build.list(0, 7, 4), Build.tag(2, 1, 1), 0, 0, 0, 0),
                ROOT, Build.list(0, 7, 0), Build.tag(2, 0, 0));
        Expect.form("one has a data word, the other a pointer",
                Build.behindRoot(Build.list(0, 7, 8), Build.tag(2, 2, 2),
                        5, 0, 0, 0, 0, 0, EMPTY, 0),
                ROOT, Build.list(0, 7, 4), Build.tag(2, 1, 1), 5, 0, 0, EMPTY);
        Expect.form("the first has the most",
                Build.behindRoot(Build.list(0, 7, 4), Build.tag(2, 2, 0), 5, 6, 7, 0),
                ROOT, Build.list(0, 7, 4), Build.tag(2, 2, 0), 5, 6, 7, 0);
        Expect.form("the last has the most",
                Build.behindRoot(Build.list(0, 7, 4), Build.tag(2, 0, 2), EMPTY, 0, 0, EMPTY),
                ROOT, Build.list(0, 7, 4), Build.tag(2, 0, 2), EMPTY, 0, 0, EMPTY);
        Expect.form("words of the list behind its elements",
                Build.behindRoot(Build.list(0, 7, 3), Build.tag(1, 1, 0), 5, 3, 3),
                ROOT, Build.list(0, 7, 1), Build.tag(1, 1, 0), 5);
        PointedWords most = Build.behindRoot(Build.list(0, 7, 61), Build.tag(61, 1, 0));
        Build.upTo(64, most, 0);
        Checks.due("61 words and a tag", 64, () -> most.form());
        Checks.due("the last of them", 63, () -> most.formed(63));
    }

    private static void offsets() {
        // From the first word of the form to its last one.
        PointedWords wide = Build.message(Build.struct(0, 61, 1));
        for (int i = 0; i < 61; i++) {
            wide.add(0, -1 - i);
        }
        Build.addAll(wide, 0, Build.list(-1, 5, 1));
        Checks.due("64 words", 64, () -> wide.form());
        Checks.due("the pointer at the end", Build.list(0, 5, 1), () -> wide.formed(62));
        PointedWords long60 = Build.message(Build.struct(0, 0, 2), Build.list(1, 5, 60),
                Build.list(0, 5, 1));
        Build.upTo(63, long60, 0);
        Checks.due("64 words again", 64, () -> long60.form());
        Checks.due("the pointer to the first of 60", Build.list(1, 5, 60), () -> long60.formed(1));
        Checks.due("the pointer to the last word", Build.list(60, 5, 1), () -> long60.formed(2));
        Checks.due("the last word", 3, () -> long60.formed(63));
        for (int kind = 0; kind < 7; kind++) {
            // A list without words in between takes none away from the next one.
            long none = Build.list(0, kind, 0);
            Expect.form("kind " + kind + " without words",
                    Build.message(Build.struct(0, 0, 3), none, Build.list(1, 5, 1), none, 8),
                    Build.struct(0, 0, 3), Build.list(2, kind, 0), Build.list(1, 5, 1),
                    Build.list(1, kind, 0), 8);
        }
        Expect.form("a list of a tag alone has a word",
                Build.message(Build.struct(0, 0, 2), Build.list(1, 7, 0), Build.list(1, 5, 1),
                        0, 8),
                Build.struct(0, 0, 2), Build.list(1, 7, 0), Build.list(1, 5, 1), 0, 8);
    }

    private static void numberOfWords() {
        Checks.due("the shortest", 1, () -> Build.message(EMPTY).form());
        PointedWords x = Build.upTo(64, Build.message(Build.struct(0, 63, 0)), 0);
        Checks.due("the longest", 64, () -> x.form());
        Checks.due("as many again", 64, () -> x.form());
        x.change(0, 63, 0);
        Checks.due("one less", 63, () -> x.form());
    }

    private static void notFormed() {
        PointedWords first = Build.message(Build.struct(0, 0, 2), Build.list(1, 5, 1), 3, 7);
        Checks.due("the first one, halfway", Checks.ARGUMENT, () -> first.form());
        Checks.due("formed(0)", 0, () -> first.formed(0));
        Checks.due("adopt()", false, first.adopt());
        Checks.due("keep()", false, first.keep());
        PointedWords x = Build.message(Build.struct(0, 1, 0), 5);
        x.form();
        long[][] wrong = {{}, {0}, {1}, {3}, {Build.far(1, 0)}, {Build.struct(0, 1, 0)},
            {Build.struct(0, 0, 2), Build.list(1, 5, 1), 3, 7}, {Build.list(0, 0, 64)}};
        String[] due = {Checks.BOUNDS, Checks.NO_SUCH, Checks.ARGUMENT, Checks.ARGUMENT,
            Checks.BOUNDS, Checks.BOUNDS, Checks.ARGUMENT, Checks.ARGUMENT};
        for (int w = 0; w < wrong.length; w++) {
            x.cut(0, 0);
            Build.addAll(x, 0, wrong[w]);
            Checks.due("wrong message " + w, due[w], () -> x.form());
            Checks.due("word 0 of the form before", Build.struct(0, 1, 0), () -> x.formed(0));
            Checks.due("word 1 of the form before", 5, () -> x.formed(1));
            Checks.due("no more words", 0, () -> x.formed(2));
        }
        x.cut(0, 0);
        x.add(0, EMPTY);
        x.budget(0);
        Checks.due("no budget", Checks.STATE, () -> x.form());
        Checks.due("word 1 of the form before", 5, () -> x.formed(1));
    }

    private static void formedWords() {
        PointedWords x = new PointedWords();
        Checks.due("no form", 0, () -> x.formed(0));
        x.add(0, Build.struct(0, 63, 0));
        Build.upTo(64, x, 0);
        x.form();
        Checks.due("the first", Build.struct(0, 63, 0), () -> x.formed(0));
        Checks.due("the last", 63, () -> x.formed(63));
        Checks.due("word 64", 0, () -> x.formed(64));
        for (int i : Expect.FAR_OFF) {
            Checks.due("word " + i, 0, () -> x.formed(i));
        }
        x.change(0, 0, Build.struct(1, 2, 0));
        Checks.due("a shorter form", 3, () -> x.form());
        Checks.due("its last word", 3, () -> x.formed(2));
        Checks.due("the one behind", 0, () -> x.formed(3));
        Checks.due("the last of the longer form", 0, () -> x.formed(63));
    }

    private static void formsStay() {
        PointedWords x = Build.message(Build.struct(0, 1, 0), 5);
        x.form();
        x.keep();
        x.change(0, 1, 6);
        Checks.due("after change", 5, () -> x.formed(1));
        x.add(0, 9);
        Checks.due("after add", 0, () -> x.formed(2));
        x.cut(0, 1);
        Checks.due("after cut", 5, () -> x.formed(1));
        x.adopt();
        Checks.due("after adopt", 5, () -> x.formed(1));
        x.change(0, 1, 7);
        Checks.due("after a change of what was adopted", 5, () -> x.formed(1));
        x.cut(0, 0);
        Checks.due("without a message", Build.struct(0, 1, 0), () -> x.formed(0));
        Checks.due("the one that is kept, too", true, x.same());
    }

    private static void adopted() {
        PointedWords x = Build.message(Build.far(3, 0), 1, 2);
        Build.addAll(x, 3, Build.struct(0, 2, 0), 5, 0);
        Build.addAll(x, 1, 8);
        Build.addAll(x, 2, 9);
        x.form();
        x.add(0, 3);
        Checks.due("adopt()", true, x.adopt());
        int[] sizes = {2, 0, 0, 0};
        for (int s = 0; s < 4; s++) {
            int segment = s;
            Checks.due("words(" + s + ")", sizes[s], () -> x.words(segment));
        }
        Checks.due("its pointer", Build.struct(0, 1, 0), () -> x.word(0, 0));
        Checks.due("its word", 5, () -> x.word(0, 1));
        Checks.due("none behind it", 0, () -> x.word(0, 2));
        Checks.due("the next word's number", 2, () -> x.add(0, 4));
        Checks.due("another segment's", 0, () -> x.add(3, 4));
        Checks.due("open()", 1, () -> x.open());
        Checks.due("adopt() again", true, x.adopt());
        Checks.due("as before", 2, () -> x.words(0));
        Checks.due("the form stays", 5, () -> x.formed(1));
        PointedWords least = Build.upTo(64, Build.message(EMPTY), 0);
        least.form();
        least.adopt();
        Checks.due("the least", 1, () -> least.words(0));
        PointedWords most = Build.message(Build.far(1, 0));
        most.add(1, Build.struct(0, 63, 0));
        Build.upTo(64, most, 1);
        most.form();
        most.adopt();
        Checks.due("the most", 64, () -> most.words(0));
        Checks.due("its last word", 63, () -> most.word(0, 63));
        Checks.due("no more words", PointedWords.NONE, () -> most.add(0, 1));
    }

    private static void notAdopted() {
        PointedWords x = Build.message(3, 5);
        Build.addAll(x, 2, 6);
        Checks.due("no form yet", false, x.adopt());
        Checks.due("a form that throws", Checks.ARGUMENT, () -> x.form());
        Checks.due("no form still", false, x.adopt());
        Checks.due("segment 0 stays", 2, () -> x.words(0));
        Checks.due("segment 2 stays", 6, () -> x.word(2, 0));
        x.change(0, 0, EMPTY);
        x.form();
        Checks.due("a form", true, x.adopt());
    }

    private static void kept() {
        PointedWords x = Build.message(Build.struct(0, 1, 0), 5);
        x.form();
        Checks.due("keep()", true, x.keep());
        Checks.due("keep() again", true, x.keep());
        x.change(0, 1, 6);
        x.form();
        Checks.due("another form", false, x.same());
        Checks.due("keep() of it", true, x.keep());
        Checks.due("is the one that is kept", true, x.same());
        x.change(0, 1, 5);
        x.form();
        Checks.due("the one before is not", false, x.same());
        x.change(0, 1, 0);
        x.form();
        Checks.due("keep() of a shorter one", true, x.keep());
        x.change(0, 1, 6);
        x.form();
        Checks.due("the longer one is not", false, x.same());
        x.change(0, 1, 0);
        x.form();
        Checks.due("the shorter one is", true, x.same());
        x.cut(0, 0);
        Checks.due("a form that throws", Checks.BOUNDS, () -> x.form());
        Checks.due("keep() of the latest one", true, x.keep());
        Checks.due("which is the same", true, x.same());
    }

    private static void notKept() {
        PointedWords x = Build.message(0);
        Checks.due("no form yet", false, x.keep());
        Checks.due("a form that throws", Checks.NO_SUCH, () -> x.form());
        Checks.due("no form still", false, x.keep());
        x.change(0, 0, EMPTY);
        x.form();
        Checks.due("none was kept", false, x.same());
        Checks.due("a form", true, x.keep());
    }

    private static void sameForms() {
        PointedWords x = Build.upTo(64, Build.message(Build.struct(0, 63, 0)), 0);
        x.form();
        x.keep();
        Checks.due("64 words", true, x.same());
        x.change(0, 63, 1L << 63);
        Checks.due("the message is not looked at", true, x.same());
        x.form();
        Checks.due("the last word is another", false, x.same());
        x.change(0, 63, 63);
        x.change(0, 1, 1 + (1L << 32));
        x.form();
        Checks.due("a bit of another word", false, x.same());
        x.change(0, 1, 1);
        x.form();
        Checks.due("as before", true, x.same());
        PointedWords one = Build.message(EMPTY);
        one.form();
        one.keep();
        Checks.due("one word", true, one.same());
        one.cut(0, 0);
        Build.addAll(one, 0, Build.struct(0, 2, 3), 0, 0, 0, 0, 0);
        one.form();
        Checks.due("words that are left out", true, one.same());
        // Lists of words of 0, of which the shorter one is where the longer one begins.
        PointedWords list = Build.behindRoot(Build.list(0, 5, 1), 0, 0);
        list.form();
        list.keep();
        list.change(0, 1, Build.list(0, 5, 2));
        list.form();
        Checks.due("one word more", false, list.same());
        list.keep();
        list.change(0, 1, Build.list(0, 5, 1));
        list.form();
        Checks.due("one word less", false, list.same());
        list.change(0, 1, Build.list(0, 6, 2));
        list.form();
        Checks.due("another kind", false, list.same());
        PointedWords root = Build.message(Build.struct(0, 1, 0), EMPTY);
        root.form();
        root.keep();
        root.change(0, 0, Build.struct(0, 0, 1));
        Expect.form("the same words but the first one", root, ROOT, EMPTY);
        Checks.due("the first word is another", false, root.same());
    }

    private static void notThere() {
        PointedWords x = Build.message(3);
        Checks.due("neither", false, x.same());
        Checks.due("a form that throws", Checks.ARGUMENT, () -> x.form());
        Checks.due("neither still", false, x.same());
        x.keep();
        Checks.due("after a keep() that is refused", false, x.same());
        x.change(0, 0, EMPTY);
        x.form();
        Checks.due("none is kept", false, x.same());
        x.keep();
        Checks.due("both", true, x.same());
        x.change(0, 0, 0);
        Checks.due("a form that throws", Checks.NO_SUCH, () -> x.form());
        Checks.due("both still", true, x.same());
    }
}
