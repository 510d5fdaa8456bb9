/** The edges of finding: what is wrong first, depth, cost, and the root. */
final class FindingBoundaries {
    private static final String TERMS = "Terms";

    private FindingBoundaries() {}

    static void run() {
        Sentences.test(TERMS,
                "What a pointer that is not null leads to, an OBJECT, is FOUND in this order: a pad"
                        + " that is not there: IndexOutOfBoundsException;",
                FindingBoundaries::padNotThere);
        Sentences.test(TERMS,
                "a pointer of bits 3, or a pad (one of its two words) that is not as said, null for"
                        + " instance: IllegalArgumentException;",
                FindingBoundaries::padNotAsSaid);
        Sentences.test(TERMS,
                "its beginning is not from 0 to the number of words of its segment (or there is no"
                        + " such segment), or one of its words, the tag too, is behind that:"
                        + " IndexOutOfBoundsException;",
                FindingBoundaries::outOfBounds);
        Sentences.test(TERMS,
                "a tag that is none, or elements that need more than n words:"
                        + " IllegalArgumentException;",
                FindingBoundaries::wrongTags);
        Sentences.test(TERMS,
                "its DEPTH, that of the object in which the pointer stands and 1, is above 8:"
                        + " IllegalStateException;",
                FindingBoundaries::depths);
        Sentences.test(TERMS,
                "its COST is more than is left of the budget: IllegalStateException.",
                FindingBoundaries::tooDear);
        Sentences.test(TERMS, "Then the cost is taken from what is left.",
                FindingBoundaries::costIsTaken);
        Sentences.test(TERMS,
                "The cost of a struct is the number of its words, that of a list of kind 0 its"
                        + " number of elements, of kinds 1 .. 6 its words, of kind 7 the greater of"
                        + " n and m, and 1; it is at least 1 for any.",
                FindingBoundaries::costs);
        Sentences.test(TERMS,
                "THE ROOT is what word 0 of segment 0 leads to, its depth is 1.",
                FindingBoundaries::root);
        Sentences.test(TERMS,
                "When there is no such word, that is an IndexOutOfBoundsException; when it is null,"
                        + " a NoSuchElementException;",
                FindingBoundaries::noRoot);
        Sentences.test(TERMS,
                "when it is found to be a list, an IllegalArgumentException (before its depth and"
                        + " cost are looked at).",
                FindingBoundaries::listAsRoot);
        Sentences.test(TERMS, "A struct that is an element has its list's depth.",
                FindingBoundaries::depthOfElements);
    }

    /** The word is wrong in a way that comes first, whatever else would be wrong later. */
    private static void dueAtAnyDepth(String what, String want, long pointer, long... others) {
        PointedWords x = Build.behindRoot(pointer, others);
        x.budget(1);
        Expect.refused(what + ", nothing is left", want, x);
        PointedWords deep = Build.chain(7, Build.struct(0, 0, 1), pointer);
        Build.addAll(deep, 0, others);
        goDown(deep, 8);
        Checks.due(what + ", too deep", want, () -> deep.go(7, 0));
        Checks.due(what + ", too deep for a form", want, () -> deep.form());
    }

    private static void goDown(PointedWords x, int depth) {
        x.open();
        for (int h = 1; h < depth; h++) {
            x.go(h - 1, 0);
        }
        Checks.due("the depth gone down to", depth, () -> x.about(depth - 1, 6));
    }

    private static void padNotThere() {
        long[] pointers = {
            Build.far(1, 0), Build.farOfTwo(1, 0), Build.far(0, 63), Build.far(4, 0),
            Build.far(-1, 0),
        };
        for (long pointer : pointers) {
            dueAtAnyDepth("pad of " + pointer, Checks.BOUNDS, pointer, 5);
        }
        // Half a pad is not there, though the half that is there is not as said.
        for (long half : new long[] {0, 1, 3, Build.farOfTwo(0, 0)}) {
            PointedWords x = Build.behindRoot(Build.farOfTwo(2, 0));
            x.add(2, half);
            Expect.refused("half a pad, " + half, Checks.BOUNDS, x);
            x.add(2, 3);
            Expect.refused("the whole pad", Checks.ARGUMENT, x);
        }
    }

    private static void padNotAsSaid() {
        dueAtAnyDepth("bits 3", Checks.ARGUMENT, 3, 5);
        dueAtAnyDepth("all bits", Checks.ARGUMENT, -1, 5);
        // The pad's words also tell of a beginning or of words that are not there.
        long away = Build.far(9, 9);
        long[][] pads = {
            {0, Build.struct(99, 0, 0)}, {Build.farOfTwo(9, 9), Build.struct(99, 0, 0)},
            {away, 0}, {away, away}, {away, 3}, {Build.struct(99, 99, 0), Build.struct(99, 0, 0)},
        };
        for (long[] pad : pads) {
            PointedWords x = Build.behindRoot(Build.farOfTwo(3, 0));
            Build.addAll(x, 3, pad);
            x.budget(1);
            Expect.refused("pad " + pad[0] + ", " + pad[1], Checks.ARGUMENT, x);
            PointedWords deep = Build.chain(8, Build.farOfTwo(3, 0));
            Build.addAll(deep, 3, pad);
            goDown(deep, 8);
            Checks.due("too deep", Checks.ARGUMENT, () -> deep.go(7, 0));
        }
        for (long pad : new long[] {0, 3, away, Build.farOfTwo(0, 0)}) {
            PointedWords x = Build.behindRoot(Build.far(3, 0));
            x.add(3, pad);
            x.budget(1);
            Expect.refused("pad " + pad, Checks.ARGUMENT, x);
        }
    }

    private static void outOfBounds() {
        long behind = Build.struct(99, 0, 0);
        dueAtAnyDepth("beginning behind the end", Checks.BOUNDS, behind);
        dueAtAnyDepth("beginning before word 0", Checks.BOUNDS, Build.struct(-99, 0, 0));
        dueAtAnyDepth("a struct's words", Checks.BOUNDS, Build.struct(0, 2, 0), 5);
        dueAtAnyDepth("a struct's pointers", Checks.BOUNDS, Build.struct(0, 1, 1), 5);
        dueAtAnyDepth("a list's words", Checks.BOUNDS, Build.list(0, 2, 9), 5);
        dueAtAnyDepth("a list's pointers", Checks.BOUNDS, Build.list(0, 6, 2), 5);
        dueAtAnyDepth("no tag", Checks.BOUNDS, Build.list(0, 7, 0));
        // The tag there is none, or its elements need too many words: that comes later.
        dueAtAnyDepth("words behind no tag", Checks.BOUNDS, Build.list(0, 7, 1), 3);
        dueAtAnyDepth("words of elements", Checks.BOUNDS, Build.list(0, 7, 1), Build.tag(9, 9, 9));
        PointedWords none = Build.behindRoot(Build.farOfTwo(1, 0));
        Build.addAll(none, 1, Build.far(4, 0), Build.struct(1, 0, 0));
        none.budget(1);
        Expect.refused("no such segment", Checks.BOUNDS, none);
        PointedWords empty = Build.behindRoot(Build.farOfTwo(1, 0));
        Build.addAll(empty, 1, Build.far(2, 0), Build.struct(1, 0, 0));
        Expect.found("beginning of an empty segment", empty, 0, 0, 0, 0, 2, 0, 2);
        empty.change(1, 0, Build.far(2, 1));
        Expect.refused("behind an empty segment", Checks.BOUNDS, empty);
        PointedWords full = Build.upTo(64, Build.behindRoot(Build.struct(62, 0, 0)), 0);
        Expect.found("the end of a full segment", full, 0, 0, 0, 0, 0, 64, 2);
        full.change(0, 1, Build.struct(63, 0, 0));
        Expect.refused("behind a full segment", Checks.BOUNDS, full);
        full.change(0, 1, Build.list(62, 7, 0));
        Expect.refused("a tag behind a full segment", Checks.BOUNDS, full);
        full.change(0, 1, Build.list(61, 7, 0));
        full.change(0, 63, 0);
        Expect.found("a tag as the last word", full, 8, 0, 0, 0, 0, 64, 2);
        wholeSegments();
    }

    /** All 64 words are there, and cost too much; elements for one word more are not there. */
    private static void wholeSegments() {
        int[] inOne = {0, 64, 8, 4, 2, 1, 1};
        PointedWords x = Build.upTo(64, Build.behindRoot(0), 0);
        for (int kind = 1; kind < 7; kind++) {
            x.change(0, 1, Build.list(-2, kind, 64 * inOne[kind]));
            Expect.refused("64 words of kind " + kind, Checks.STATE, x);
            x.change(0, 1, Build.list(-2, kind, 64 * inOne[kind] + 1));
            Expect.refused("65 words of kind " + kind, Checks.BOUNDS, x);
        }
        x.change(0, 1, Build.struct(-2, 32, 32));
        Expect.refused("a struct of 64 words", Checks.STATE, x);
        x.change(0, 1, Build.struct(-2, 32, 33));
        Expect.refused("a struct of 65 words", Checks.BOUNDS, x);
        x.change(0, 1, Build.list(-2, 7, 63));
        Expect.refused("a tag and 63 words", Checks.STATE, x);
        x.change(0, 1, Build.list(-2, 7, 64));
        Expect.refused("a tag and 64 words", Checks.BOUNDS, x);
    }

    private static void wrongTags() {
        for (int wrong = 1; wrong < 4; wrong++) {
            dueAtAnyDepth("tag " + wrong, Checks.ARGUMENT, Build.list(0, 7, 1), wrong, 5);
        }
        long list = Build.list(0, 7, 1);
        dueAtAnyDepth("a word too many", Checks.ARGUMENT, list, Build.tag(2, 1, 0), 5);
        dueAtAnyDepth("far too many", Checks.ARGUMENT, list, Build.tag(-1, 9, 9), 5);
        PointedWords x = Build.behindRoot(Build.list(0, 7, 1), Build.tag(1, 1, 0), 5);
        Expect.found("as many as there are", x, 8, 1, 0, 1, 0, 3, 2);
    }

    private static void depths() {
        PointedWords x = Build.chain(7, Build.struct(0, 1, 0), 5);
        goDown(x, 8);
        Checks.due("depth 8 has its data", 5, () -> x.data(7, 0));
        Checks.due("a form of depth 8", 9, () -> x.form());
        long[][] ninth = {
            {Build.struct(-1, 0, 0)}, {Build.struct(0, 1, 0), 5}, {Build.list(0, 0, 0)},
            {Build.list(0, 5, 1), 5}, {Build.list(0, 6, 1), 0}, {Build.list(0, 7, 0), 0},
            {Build.far(0, 9), Build.struct(-1, 0, 0)},
        };
        for (long[] last : ninth) {
            PointedWords deep = Build.chain(8, last);
            goDown(deep, 8);
            Checks.due("depth 9 by " + last[0], Checks.STATE, () -> deep.go(7, 0));
            Checks.due("it costs nothing", 55, () -> deep.left());
            Checks.due("a form of depth 9", Checks.STATE, () -> deep.form());
        }
        PointedWords nothing = Build.chain(8, 0);
        goDown(nothing, 8);
        Checks.due("null is at no depth", PointedWords.NONE, () -> nothing.go(7, 0));
        Checks.due("in a form, too", 8, () -> nothing.form());
        // A far pointer and its pads are no depth of their own.
        PointedWords far = Build.chain(7, Build.farOfTwo(1, 0));
        Build.addAll(far, 1, Build.far(1, 2), Build.struct(0, 1, 0), 5);
        goDown(far, 8);
        Checks.due("depth 8 by a pad", 5, () -> far.data(7, 0));
        PointedWords circle = Build.message(Build.struct(-1, 0, 1));
        goDown(circle, 8);
        Checks.due("a circle ends below depth 8", Checks.STATE, () -> circle.go(7, 0));
        Checks.due("and has no form", Checks.STATE, () -> circle.form());
    }

    private static void tooDear() {
        PointedWords x = Build.behindRoot(Build.list(0, 0, 62));
        Expect.found("all that is left", x, 1, 62, 0, 0, 0, 2, 2);
        Checks.due("a form for the whole budget", 2, () -> x.form());
        x.change(0, 1, Build.list(0, 0, 63));
        Expect.refused("1 more than is left", Checks.STATE, x);
        x.change(0, 1, Build.list(0, 0, (1 << 29) - 1));
        Expect.refused("far more than is left", Checks.STATE, x);
        x.change(0, 1, Build.struct(-1, 0, 0));
        x.budget(1);
        Expect.refused("nothing is left for what has no words", Checks.STATE, x);
        x.budget(2);
        Expect.found("1 is left for it", x, 0, 0, 0, 0, 0, 1, 2);
        x.budget(0);
        Expect.refusedRoot("a budget of 0", Checks.STATE, x);
    }

    private static void costIsTaken() {
        PointedWords x = Build.message(Build.struct(0, 0, 3), Build.list(2, 0, 20),
                Build.list(1, 0, 39), Build.list(0, 0, 1));
        x.open();
        Checks.due("left() with the root alone", 60, () -> x.left());
        x.go(0, 0);
        Checks.due("20 less", 40, () -> x.left());
        x.go(0, 1);
        Checks.due("39 less", 1, () -> x.left());
        Checks.due("20 more", Checks.STATE, () -> x.go(0, 0));
        Checks.due("take nothing", 1, () -> x.left());
        Checks.due("1 more", 3, () -> x.go(0, 2));
        Checks.due("takes the rest", 0, () -> x.left());
        Checks.due("1 again", Checks.STATE, () -> x.go(0, 2));
        Checks.due("a form for the whole budget", 4, () -> x.form());
        x.change(0, 3, Build.list(0, 0, 2));
        Checks.due("a form for 1 more", Checks.STATE, () -> x.form());
        // The same object is paid for by each pointer that leads to it.
        PointedWords twice = Build.message(Build.struct(0, 0, 2), Build.struct(1, 1, 0),
                Build.struct(0, 1, 0), 5);
        twice.budget(4);
        Checks.due("one object found twice", 5, () -> twice.form());
        twice.budget(3);
        Checks.due("for less", Checks.STATE, () -> twice.form());
    }

    private static void dueCost(String what, int cost, long pointer, long... others) {
        PointedWords x = Build.behindRoot(pointer, others);
        x.budget(cost + 1);
        x.open();
        Checks.due(what + " for " + cost, 1, () -> x.go(0, 0));
        Checks.due(what + " takes all", 0, () -> x.left());
        x.budget(cost);
        Expect.refused(what + " for 1 less", Checks.STATE, x);
    }

    private static void costs() {
        dueCost("a struct without words", 1, Build.struct(-1, 0, 0));
        dueCost("a struct of a data word", 1, Build.struct(0, 1, 0), 5);
        dueCost("a struct of a pointer", 1, Build.struct(0, 0, 1), 0);
        dueCost("a struct of both", 2, Build.struct(0, 1, 1), 5, 0);
        dueCost("a struct of words of 0", 3, Build.struct(0, 2, 1), 0, 0, 0);
        for (int n : new int[] {0, 1, 2, 62}) {
            dueCost(n + " elements of 0 bits", Math.max(n, 1), Build.list(0, 0, n));
        }
        int[] bits = {0, 1, 8, 16, 32, 64, 64};
        for (int kind = 1; kind < 7; kind++) {
            int inOne = 64 / bits[kind];
            dueCost("no element, kind " + kind, 1, Build.list(0, kind, 0));
            dueCost("an element, kind " + kind, 1, Build.list(0, kind, 1), 0, 0);
            dueCost("a whole word, kind " + kind, 1, Build.list(0, kind, inOne), 0, 0);
            dueCost("two words, kind " + kind, 2, Build.list(0, kind, inOne + 1), 0, 0);
        }
        dueCost("kind 7, n and m 0", 1, Build.list(0, 7, 0), 0);
        dueCost("kind 7, n 1, m 0", 2, Build.list(0, 7, 1), 0, 5);
        dueCost("kind 7, n 0, m 1", 2, Build.list(0, 7, 0), Build.tag(1, 0, 0));
        dueCost("kind 7, n 2, m 2", 3, Build.list(0, 7, 2), Build.tag(2, 0, 1), 0, 0);
        dueCost("kind 7, n 3, m 2", 4, Build.list(0, 7, 3), Build.tag(2, 1, 0), 0, 0, 0);
        dueCost("kind 7, n 2, m 3", 4, Build.list(0, 7, 2), Build.tag(3, 0, 0), 0, 0);
        dueCost("kind 7, m 61", 62, Build.list(0, 7, 0), Build.tag(61, 0, 0));
        Expect.refused("kind 7, m 62", Checks.STATE,
                Build.behindRoot(Build.list(0, 7, 0), Build.tag(62, 0, 0)));
    }

    private static void root() {
        PointedWords x = Build.message(Build.struct(0, 1, 1), 5, 0);
        Build.addAll(x, 1, Build.struct(0, 1, 0), 6);
        x.open();
        Expect.parts("the root", x, 0, 0, 1, 1, 0, 0, 1, 1);
        PointedWords itself = Build.message(Build.struct(-1, 1, 0));
        itself.open();
        Expect.parts("a root that is its own pointer", itself, 0, 0, 1, 0, 0, 0, 0, 1);
        PointedWords far = Build.message(Build.farOfTwo(3, 0));
        Build.addAll(far, 3, Build.far(2, 1), Build.struct(0, 1, 0));
        Build.addAll(far, 2, 7, 8);
        far.open();
        Expect.parts("a far root", far, 0, 0, 1, 0, 0, 2, 1, 1);
    }

    private static void noRoot() {
        PointedWords none = new PointedWords();
        for (int s = 1; s < 4; s++) {
            Build.addAll(none, s, Build.struct(-1, 0, 0));
        }
        Expect.refusedRoot("no word in segment 0", Checks.BOUNDS, none);
        none.budget(0);
        Expect.refusedRoot("nor a budget", Checks.BOUNDS, none);
        none.add(0, 0);
        Expect.refusedRoot("a null word", Checks.NO_SUCH, none);
        none.change(0, 0, Build.struct(-1, 0, 0));
        Expect.refusedRoot("a root and no budget", Checks.STATE, none);
        none.cut(0, 0);
        Expect.refusedRoot("a root that was cut", Checks.BOUNDS, none);
    }

    private static void listAsRoot() {
        for (int kind = 0; kind < 8; kind++) {
            PointedWords x = Build.message(Build.list(0, kind, 0), 0);
            Expect.refusedRoot("kind " + kind, Checks.ARGUMENT, x);
            x.budget(0);
            Expect.refusedRoot("kind " + kind + " without a budget", Checks.ARGUMENT, x);
        }
        Expect.refusedRoot("a dear list", Checks.ARGUMENT, Build.message(Build.list(0, 0, 64)));
        Expect.refusedRoot("elements that are dear", Checks.ARGUMENT,
                Build.message(Build.list(0, 7, 0), Build.tag(-1, 0, 0)));
        PointedWords far = Build.message(Build.far(1, 0));
        Build.addAll(far, 1, Build.list(0, 5, 1), 5);
        Expect.refusedRoot("a far list", Checks.ARGUMENT, far);
        // It must be found before it is found to be a list.
        Expect.refusedRoot("a list behind the end", Checks.BOUNDS,
                Build.message(Build.list(1, 0, 0)));
        Expect.refusedRoot("words behind the end", Checks.BOUNDS,
                Build.message(Build.list(0, 5, 1)));
        Expect.refusedRoot("no tag", Checks.BOUNDS, Build.message(Build.list(0, 7, 0)));
        PointedWords noPad = Build.message(Build.far(1, 0));
        Expect.refusedRoot("no pad", Checks.BOUNDS, noPad);
    }

    private static void depthOfElements() {
        PointedWords x = Build.chain(7, Build.list(0, 7, 2), Build.tag(1, 1, 1), 5, 0);
        goDown(x, 8);
        Checks.due("an element of a list at depth 8", 8, () -> x.element(7, 0));
        Checks.due("its depth", 8, () -> x.about(8, 6));
        Checks.due("its form", 10, () -> x.form());
        PointedWords below = Build.chain(6, Build.list(0, 7, 1), Build.tag(1, 0, 1),
                Build.struct(0, 0, 1), Build.struct(-1, 0, 0));
        goDown(below, 7);
        below.element(6, 0);
        Checks.due("depth of an element", 7, () -> below.about(7, 6));
        Checks.due("what it leads to", 8, () -> below.go(7, 0));
        Checks.due("its depth", 8, () -> below.about(8, 6));
        Checks.due("below that", Checks.STATE, () -> below.go(8, 0));
        Checks.due("a form that goes below", Checks.STATE, () -> below.form());
        below.change(0, 9, 0);
        Checks.due("a form that does not", 9, () -> below.form());
    }
}
