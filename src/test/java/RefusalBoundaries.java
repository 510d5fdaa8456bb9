import java.util.function.Supplier;

/** Calls that are refused: what they change, and what they throw when several would fit. */
final class RefusalBoundaries {
    private static final String FALSE = "0";
    private static final long EMPTY = Build.struct(-1, 0, 0);

    private RefusalBoundaries() {}

    /** A call on an object that was made for it. */
    private interface Refused {
        long answer(PointedWords x);
    }

    static void run() {
        Sentences.test("Terms", "A call that throws, or answers false, changes nothing;", () -> {
            refusedWithHandles();
            refusedWithSixteen();
            refusedTooDeep();
            refusedRoots();
            refusedWithoutForm();
        });
        Sentences.test("Terms",
                "where several exceptions that a call names would fit, it is the one that it names"
                        + " first (what finding throws, in its order).",
                () -> {
                    firstOfGo();
                    firstOfElement();
                    firstOfAboutAndData();
                    firstOfTheRoot();
                });
        Sentences.test("What it is",
                "An object is used for at most 512 calls after it has been made; what later calls"
                        + " answer is free.",
                RefusalBoundaries::calls);
    }

    /**
     * Two objects that were made alike, one of which refuses a call: all that can be asked of them
     * must be answered alike.
     */
    private static void due(
            String what, String want, Supplier<PointedWords> made, Refused refused) {
        PointedWords x = made.get();
        Checks.due(what, want, () -> refused.answer(x));
        Checks.due("all answers after " + what, everythingOf(made.get()), everythingOf(x));
    }

    private static String everythingOf(PointedWords x) {
        StringBuilder all = new StringBuilder();
        for (int s = 0; s < 4; s++) {
            int segment = s;
            note(all, () -> x.words(segment));
            for (int i = 0; i < 12; i++) {
                int number = i;
                note(all, () -> x.word(segment, number));
            }
            note(all, () -> x.word(segment, 63));
        }
        for (int h = 0; h < 17; h++) {
            int handle = h;
            for (int p = 0; p < 7; p++) {
                int part = p;
                note(all, () -> x.about(handle, part));
            }
            note(all, () -> x.data(handle, 0));
        }
        note(all, () -> x.left());
        for (int i = 0; i < 6; i++) {
            int number = i;
            note(all, () -> x.formed(number));
        }
        note(all, () -> x.same() ? 1 : 0);
        // Which handle is the next one, and what it costs.
        note(all, () -> x.go(0, 0));
        note(all, () -> x.left());
        // What the budget is, and which form is kept.
        x.change(0, 0, Build.struct(0, 1, 0));
        x.change(0, 1, 77);
        note(all, () -> x.open());
        note(all, () -> x.left());
        note(all, () -> x.form());
        note(all, () -> x.same() ? 1 : 0);
        return all.toString();
    }

    private static void note(StringBuilder all, Checks.Call call) {
        all.append(Checks.answerOf(call)).append(' ');
    }

    /** A form that is kept and a later one; the root of the message is still to be told. */
    private static PointedWords withForms() {
        PointedWords x = Build.message(Build.struct(0, 1, 0), 77);
        x.form();
        x.keep();
        x.change(0, 1, 78);
        x.form();
        x.budget(20);
        return x;
    }

    /** Four handles, and pointers of the root that lead astray in all ways but depth. */
    private static PointedWords withHandles() {
        PointedWords x = withForms();
        Build.addAll(x, 0, Build.far(1, 0), 0, 3, Build.struct(99, 0, 0), Build.list(0, 0, 63),
                Build.list(0, 6, 1), EMPTY);
        Build.addAll(x, 1, Build.list(0, 7, 4), Build.tag(2, 1, 1), 5, 0, 6, 0);
        Build.upTo(64, x, 1);
        x.change(0, 0, Build.struct(0, 1, 6));
        x.budget(63);
        x.open();
        x.go(0, 0);
        x.element(1, 1);
        x.go(0, 5);
        x.budget(20);
        return x;
    }

    private static long asNumber(boolean answer) {
        return answer ? 1 : 0;
    }

    private static void refusedWithHandles() {
        Supplier<PointedWords> made = RefusalBoundaries::withHandles;
        String none = Integer.toString(PointedWords.NONE);
        due("add to a full segment", none, made, x -> x.add(1, 9));
        due("add to segment 4", none, made, x -> x.add(4, 9));
        due("add to segment -1", none, made, x -> x.add(-1, 9));
        due("change behind the end", FALSE, made, x -> asNumber(x.change(0, 9, 9)));
        due("change of word -1", FALSE, made, x -> asNumber(x.change(0, -1, 9)));
        due("change in segment 4", FALSE, made, x -> asNumber(x.change(4, 0, 9)));
        due("cut to more", FALSE, made, x -> asNumber(x.cut(0, 10)));
        due("cut to -1", FALSE, made, x -> asNumber(x.cut(0, -1)));
        due("cut of segment 4", FALSE, made, x -> asNumber(x.cut(4, 0)));
        due("budget(64)", FALSE, made, x -> asNumber(x.budget(64)));
        due("budget(-1)", FALSE, made, x -> asNumber(x.budget(-1)));
        due("same()", FALSE, made, x -> asNumber(x.same()));
        due("go without a handle", Checks.NO_SUCH, made, x -> x.go(4, 0));
        due("go from kind 7", Checks.UNSUPPORTED, made, x -> x.go(1, 0));
        due("go below 0", Checks.BOUNDS, made, x -> x.go(0, -1));
        due("go behind a list", Checks.BOUNDS, made, x -> x.go(3, 1));
        due("go to null", none, made, x -> x.go(0, 1));
        due("go to what is not there", none, made, x -> x.go(0, 6));
        due("go by bits 3", Checks.ARGUMENT, made, x -> x.go(0, 2));
        due("go out of bounds", Checks.BOUNDS, made, x -> x.go(0, 3));
        due("go to what is too dear", Checks.STATE, made, x -> x.go(0, 4));
        due("element without a handle", Checks.NO_SUCH, made, x -> x.element(4, 0));
        due("element of a struct", Checks.UNSUPPORTED, made, x -> x.element(0, 0));
        due("element out of bounds", Checks.BOUNDS, made, x -> x.element(1, 2));
        due("about without a handle", Checks.NO_SUCH, made, x -> x.about(4, 0));
        due("about no part", Checks.BOUNDS, made, x -> x.about(0, 7));
        due("data without a handle", Checks.NO_SUCH, made, x -> x.data(4, 0));
        due("data of pointers", Checks.UNSUPPORTED, made, x -> x.data(3, 0));
        due("data below 0", Checks.BOUNDS, made, x -> x.data(0, -1));
        due("form, halfway", Checks.ARGUMENT, made, x -> x.form());
        Supplier<PointedWords> poor = () -> {
            PointedWords x = withHandles();
            x.budget(6);
            return x;
        };
        due("open for too little", Checks.STATE, poor, x -> x.open());
        due("form for too little", Checks.STATE, poor, x -> x.form());
    }

    private static PointedWords withSixteen() {
        PointedWords x = withHandles();
        for (int h = 4; h < 16; h++) {
            x.element(1, h % 2);
        }
        return x;
    }

    private static void refusedWithSixteen() {
        Supplier<PointedWords> made = RefusalBoundaries::withSixteen;
        due("go for a 17th", Checks.STATE, made, x -> x.go(0, 0));
        due("go astray for a 17th", Checks.STATE, made, x -> x.go(0, 2));
        due("element for a 17th", Checks.STATE, made, x -> x.element(1, 0));
    }

    private static PointedWords goneDown(long... last) {
        PointedWords x = withForms();
        x.cut(0, 0);
        for (int i = 0; i < 8; i++) {
            x.add(0, Build.struct(0, 0, 1));
        }
        Build.addAll(x, 0, last);
        x.open();
        for (int h = 0; h < 7; h++) {
            x.go(h, 0);
        }
        return x;
    }

    private static void refusedTooDeep() {
        Supplier<PointedWords> made = () -> goneDown(EMPTY);
        due("go to depth 9", Checks.STATE, made, x -> x.go(7, 0));
        due("form of depth 9", Checks.STATE, made, x -> x.form());
        Supplier<PointedWords> list = () -> goneDown(Build.list(0, 7, 0), Build.tag(2, 0, 0));
        due("go to a list at depth 9", Checks.STATE, list, x -> x.go(7, 0));
        due("form with a list at depth 9", Checks.STATE, list, x -> x.form());
    }

    private static PointedWords withRoot(long... words) {
        PointedWords x = withForms();
        x.cut(0, 0);
        Build.addAll(x, 0, words);
        return x;
    }

    private static void refusedRoots() {
        long[][] roots = {{}, {0}, {1, 5}, {3, 5}, {Build.far(3, 0), 5}, {Build.struct(0, 9, 0), 5},
            {Build.list(0, 0, 64), 5}, {Build.list(0, 7, 0), 3}};
        String[] due = {Checks.BOUNDS, Checks.NO_SUCH, Checks.ARGUMENT, Checks.ARGUMENT,
            Checks.BOUNDS, Checks.BOUNDS, Checks.ARGUMENT, Checks.ARGUMENT};
        for (int r = 0; r < roots.length; r++) {
            long[] words = roots[r];
            due("open of root " + r, due[r], () -> withRoot(words), x -> x.open());
            due("form of root " + r, due[r], () -> withRoot(words), x -> x.form());
        }
    }

    private static void refusedWithoutForm() {
        Supplier<PointedWords> made = () -> {
            PointedWords x = Build.message(Build.struct(0, 1, 1), 5, EMPTY);
            x.add(2, 6);
            x.open();
            x.go(0, 0);
            return x;
        };
        due("adopt without a form", FALSE, made, x -> asNumber(x.adopt()));
        due("keep without a form", FALSE, made, x -> asNumber(x.keep()));
        due("same without a form", FALSE, made, x -> asNumber(x.same()));
        Supplier<PointedWords> fails = () -> Build.message(Build.struct(0, 0, 2), EMPTY, 3);
        due("a first form, halfway", Checks.ARGUMENT, fails, x -> x.form());
    }

    private static void firstOfGo() {
        PointedWords x = withSixteen();
        Checks.due("no handle, k below 0, 16 handles", Checks.NO_SUCH, () -> x.go(16, -1));
        Checks.due("no pointers, k below 0, 16 handles", Checks.UNSUPPORTED, () -> x.go(1, -1));
        Checks.due("no pointers, k too large", Checks.UNSUPPORTED, () -> x.go(1, 9));
        Checks.due("no pointers, 16 handles", Checks.UNSUPPORTED, () -> x.go(1, 0));
        Checks.due("k below 0, 16 handles", Checks.BOUNDS, () -> x.go(0, -1));
        Checks.due("k too large, 16 handles", Checks.BOUNDS, () -> x.go(3, 1));
        Checks.due("16 handles, bits 3", Checks.STATE, () -> x.go(0, 2));
        Checks.due("16 handles, out of bounds", Checks.STATE, () -> x.go(0, 3));
        Checks.due("16 handles, too dear", Checks.STATE, () -> x.go(0, 4));
        PointedWords deep = goneDown(Build.list(0, 7, 1), 3);
        Checks.due("no words, no tag, too deep", Checks.BOUNDS, () -> deep.go(7, 0));
        PointedWords tag = goneDown(Build.list(0, 7, 1), 3, 5);
        Checks.due("no tag, too deep", Checks.ARGUMENT, () -> tag.go(7, 0));
        PointedWords pad = goneDown(Build.farOfTwo(0, 9), 3);
        Checks.due("half a pad, not as said, too deep", Checks.BOUNDS, () -> pad.go(7, 0));
    }

    private static void firstOfElement() {
        PointedWords x = withSixteen();
        Checks.due("no handle, k below 0, 16 handles", Checks.NO_SUCH, () -> x.element(16, -1));
        Checks.due("no elements, k below 0", Checks.UNSUPPORTED, () -> x.element(0, -1));
        Checks.due("no elements, 16 handles", Checks.UNSUPPORTED, () -> x.element(3, 0));
        Checks.due("k below 0, 16 handles", Checks.BOUNDS, () -> x.element(1, -1));
        Checks.due("k too large, 16 handles", Checks.BOUNDS, () -> x.element(1, 2));
    }

    private static void firstOfAboutAndData() {
        PointedWords x = withHandles();
        Checks.due("no handle, no part", Checks.NO_SUCH, () -> x.about(4, 7));
        Checks.due("no handle, part -1", Checks.NO_SUCH, () -> x.about(-1, -1));
        Checks.due("no handle, k below 0", Checks.NO_SUCH, () -> x.data(4, -1));
        Checks.due("no data, k below 0", Checks.UNSUPPORTED, () -> x.data(1, -1));
        Checks.due("no data, k too large", Checks.UNSUPPORTED, () -> x.data(3, 1));
    }

    private static void dueRoot(String what, String want, long... words) {
        PointedWords x = Build.message(words);
        x.budget(0);
        Expect.refusedRoot(what, want, x);
    }

    private static void firstOfTheRoot() {
        dueRoot("no word, no budget", Checks.BOUNDS);
        dueRoot("null, no budget", Checks.NO_SUCH, 0);
        dueRoot("bits 3, no budget", Checks.ARGUMENT, 3);
        dueRoot("a list, no budget", Checks.ARGUMENT, 1);
        dueRoot("a list out of bounds, no budget", Checks.BOUNDS, Build.list(0, 5, 1));
        dueRoot("half a pad, not as said", Checks.BOUNDS, Build.farOfTwo(0, 1), 3);
        dueRoot("a struct out of bounds, no budget", Checks.BOUNDS, Build.struct(0, 1, 0));
        dueRoot("a struct, no budget", Checks.STATE, Build.struct(0, 1, 0), 5);
    }

    private static void calls() {
        PointedWords x = new PointedWords();
        int calls = 0;
        for (int s = 0; s < 4; s++) {
            int segment = s;
            for (int i = 0; i < 64; i++) {
                int number = i;
                long word = s == 0 && i == 0 ? Build.struct(0, 62, 1) : 1000L * s + i;
                Checks.due("add, one of 512 calls", number, () -> x.add(segment, word));
                calls++;
            }
        }
        x.change(0, 63, 0);
        x.open();
        calls += 2;
        while (calls < 510) {
            int k = calls % 62;
            Checks.due("data, one of 512 calls", k + 1, () -> x.data(0, k));
            calls++;
        }
        Checks.due("the 511th call", 63, () -> x.form());
        Checks.due("the 512th call", Build.struct(0, 62, 0), () -> x.formed(0));
    }
}
