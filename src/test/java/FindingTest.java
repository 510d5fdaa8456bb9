/** How an object is found, and in which order what is wrong is named: by go(0, 0) and by form(). */
public final class FindingTest {
    public static void main(String[] args) {
        nearPointers();
        plainLists();
        structLists();
        farPointers();
        farPointersOfTwo();
        theOrder();
        costs();
        depths();
        Checks.end();
    }

    /** What go(0, 0) answers, the handle being 1 where it does not throw. */
    private static void due(String what, String want, PointedWords x) {
        x.open();
        int before = x.left();
        Checks.due(what + ", go", want, () -> x.go(0, 0));
        boolean found = want.equals("1");
        if (!found) {
            Checks.due(what + ", left", before, () -> x.left());
            Checks.due(what + ", no handle", Checks.NO_SUCH, () -> x.about(1, 0));
            Checks.due(what + ", form", want, () -> x.form());
            Checks.due(what + ", no form", 0, () -> x.formed(0));
        }
    }

    private static void dueBehindRoot(String what, String want, long pointer, long... others) {
        due(what, want, Build.behindRoot(pointer, others));
    }

    private static void nearPointers() {
        String there = "1";
        dueBehindRoot("the words end with it", there, Build.struct(0, 1, 1), 1, 0);
        dueBehindRoot("a data word too many", Checks.BOUNDS, Build.struct(0, 2, 1), 1, 0);
        dueBehindRoot("a pointer too many", Checks.BOUNDS, Build.struct(0, 1, 2), 1, 0);
        dueBehindRoot("no words, at the end", there, Build.struct(2, 0, 0), 1, 0);
        dueBehindRoot("no words, behind the end", Checks.BOUNDS, Build.struct(3, 0, 0), 1, 0);
        dueBehindRoot("begins with word 0", there, Build.struct(-2, 2, 0));
        dueBehindRoot("no words, before 0", Checks.BOUNDS, Build.struct(-3, 0, 0), 1, 0);
        dueBehindRoot("before 0", Checks.BOUNDS, Build.struct(-3, 2, 0), 1, 0);
        dueBehindRoot("b is the least", Checks.BOUNDS, Build.struct(-(1 << 29), 0, 0));
        dueBehindRoot("b is the most", Checks.BOUNDS, Build.struct((1 << 29) - 1, 0, 0));
        dueBehindRoot("all of d and p", Checks.BOUNDS, Build.struct(0, 65535, 65535), 1);
        dueBehindRoot("bits 3", Checks.ARGUMENT, 3, 1);
        dueBehindRoot("all bits", Checks.ARGUMENT, -1, 1);
    }

    private static void plainLists() {
        int[] bits = {0, 1, 8, 16, 32, 64, 64};
        for (int kind = 1; kind < 7; kind++) {
            int inTwo = 128 / bits[kind];
            String of = "kind " + kind + ", ";
            dueBehindRoot(of + "two words", "1", Build.list(0, kind, inTwo), -1, -1);
            dueBehindRoot(of + "one more", Checks.BOUNDS, Build.list(0, kind, inTwo + 1), -1, -1);
            dueBehindRoot(of + "none, at the end", "1", Build.list(1, kind, 0), -1);
            dueBehindRoot(of + "none, behind it", Checks.BOUNDS, Build.list(2, kind, 0), -1);
            int most = (1 << 29) - 1;
            dueBehindRoot(of + "the most", Checks.BOUNDS, Build.list(0, kind, most), -1);
        }
        for (int kind = 1; kind < 7; kind++) {
            int inAll = 64 * 64 / bits[kind];
            PointedWords all = fullSegment(Build.list(-2, kind, inAll));
            due("all words, kind " + kind, Checks.STATE, all);
            PointedWords more = fullSegment(Build.list(-2, kind, inAll + 1));
            due("more than all words, kind " + kind, Checks.BOUNDS, more);
        }
        dueBehindRoot("kind 0 needs no words", "1", Build.list(0, 0, 62));
        dueBehindRoot("kind 0, behind the end", Checks.BOUNDS, Build.list(1, 0, 1));
        dueBehindRoot("kind 0, the most", Checks.STATE, Build.list(0, 0, (1 << 29) - 1));
    }

    private static PointedWords fullSegment(long pointer) {
        PointedWords x = Build.behindRoot(pointer);
        for (int i = 2; i < 64; i++) {
            x.add(0, i);
        }
        return x;
    }

    private static void structLists() {
        long two = Build.tag(2, 1, 1);
        dueBehindRoot("two elements", "1", Build.list(0, 7, 4), two, 1, 0, 2, 0);
        dueBehindRoot("a word too many", Checks.BOUNDS, Build.list(0, 7, 5), two, 1, 0, 2, 0);
        dueBehindRoot("a word unused", "1", Build.list(0, 7, 5), two, 1, 0, 2, 0, 9);
        dueBehindRoot("a word too few", Checks.ARGUMENT, Build.list(0, 7, 3), two, 1, 0, 2, 0);
        dueBehindRoot("no tag there", Checks.BOUNDS, Build.list(0, 7, 0));
        dueBehindRoot("a tag of 0", "1", Build.list(0, 7, 0), 0);
        dueBehindRoot("no elements, wide", "1", Build.list(0, 7, 0), Build.tag(0, 65535, 65535));
        for (int wrong = 1; wrong < 4; wrong++) {
            dueBehindRoot("a tag of bits " + wrong, Checks.ARGUMENT, Build.list(0, 7, 0), wrong);
        }
        dueBehindRoot("the most words", Checks.BOUNDS, Build.list(0, 7, (1 << 29) - 1), 0);
        long most = Build.tag((1 << 30) - 1, 65535, 65535);
        dueBehindRoot("the most elements", Checks.ARGUMENT, Build.list(0, 7, 1), most, 1);
        // 2^29 elements of 8 words would be 0 words in 32 bits.
        long wrapped = Build.tag(1 << 29, 4, 4);
        dueBehindRoot("elements that wrap", Checks.ARGUMENT, Build.list(0, 7, 1), wrapped, 1);
        long many = Build.tag(-1, 0, 0);
        dueBehindRoot("m is without sign", Checks.STATE, Build.list(0, 7, 0), many);
        dueBehindRoot("tag before 0", Checks.BOUNDS, Build.list(-3, 7, 0), 0);
        dueBehindRoot("the tag is the root", "1", Build.list(-2, 7, 1));
    }

    private static PointedWords withPad(long far, long... pad) {
        PointedWords x = Build.behindRoot(far);
        Build.addAll(x, 1, pad);
        return x;
    }

    private static void farPointers() {
        due("a far struct", "1", withPad(Build.far(1, 0), Build.struct(0, 1, 0), 5));
        due("a far list", "1", withPad(Build.far(1, 1), 0, Build.list(-2, 5, 2)));
        due("no pad", Checks.BOUNDS, withPad(Build.far(1, 2), 1, 1));
        due("no pad in an empty one", Checks.BOUNDS, withPad(Build.far(2, 0), 1, 1));
        due("no segment 4", Checks.BOUNDS, withPad(Build.far(4, 0), 1, 1));
        due("no segment -1", Checks.BOUNDS, withPad(Build.far(-1, 0), 1, 1));
        due("no segment 2^31", Checks.BOUNDS, withPad(Build.far(1L << 31, 0), 1, 1));
        due("no word -1", Checks.BOUNDS, withPad(Build.far(1, -1), 1, 1));
        due("a pad of 0", Checks.ARGUMENT, withPad(Build.far(1, 0), 0, 1));
        due("a far pad", Checks.ARGUMENT, withPad(Build.far(1, 0), Build.far(1, 1), 0, 1));
        due("a far pad of two", Checks.ARGUMENT, withPad(Build.far(1, 0), Build.farOfTwo(1, 1)));
        due("a pad of bits 3", Checks.ARGUMENT, withPad(Build.far(1, 0), 3, 0, 1));
        due("from the pad's place", Checks.BOUNDS, withPad(Build.far(1, 0), Build.struct(0, 1, 0)));
        due("before 0 of it", Checks.BOUNDS, withPad(Build.far(1, 0), Build.struct(-2, 1, 0), 1));
        PointedWords same = Build.behindRoot(Build.far(0, 2), Build.struct(0, 1, 0), 5);
        due("a pad in its own segment", "1", same);
        Checks.due("what it leads to", 5, () -> same.data(1, 0));
        PointedWords itself = Build.behindRoot(Build.far(0, 1));
        due("a pad that is itself", Checks.ARGUMENT, itself);
    }

    private static PointedWords withTwo(long where, long what) {
        PointedWords x = withPad(Build.farOfTwo(1, 1), 77, where, what);
        Build.addAll(x, 3, 30, 31, 32);
        return x;
    }

    private static void farPointersOfTwo() {
        PointedWords x = withTwo(Build.far(3, 1), Build.struct(12345, 2, 0));
        due("a far struct of two", "1", x);
        Checks.due("its first word", 31, () -> x.data(1, 0));
        Checks.due("its segment", 3, () -> x.about(1, 4));
        Checks.due("its begin", 1, () -> x.about(1, 5));
        long struct = Build.struct(0, 1, 0);
        due("of two, a list", "1", withTwo(Build.far(3, 0), Build.list(-9, 5, 3)));
        due("of two, a long list", Checks.BOUNDS, withTwo(Build.far(3, 0), Build.list(0, 5, 4)));
        due("of two, no words, at the end", "1", withTwo(Build.far(3, 3), Build.struct(5, 0, 0)));
        due("of two, behind", Checks.BOUNDS, withTwo(Build.far(3, 4), Build.struct(5, 0, 0)));
        due("of two, too long", Checks.BOUNDS, withTwo(Build.far(3, 3), struct));
        due("of two, no segment", Checks.BOUNDS, withTwo(Build.far(4, 0), struct));
        due("of two, segment -1", Checks.BOUNDS, withTwo(Build.far(-1, 0), struct));
        due("of two, word -1", Checks.BOUNDS, withTwo(Build.far(3, -1), struct));
        due("of two, then two", Checks.ARGUMENT, withTwo(Build.farOfTwo(3, 0), struct));
        due("of two, null", Checks.ARGUMENT, withTwo(0, struct));
        due("of two, no far one", Checks.ARGUMENT, withTwo(struct, struct));
        due("of two, list first", Checks.ARGUMENT, withTwo(Build.list(0, 5, 0), struct));
        due("of two, bits 3 first", Checks.ARGUMENT, withTwo(3, struct));
        due("of two, then null", Checks.ARGUMENT, withTwo(Build.far(3, 0), 0));
        due("of two, then far", Checks.ARGUMENT, withTwo(Build.far(3, 0), Build.far(3, 0)));
        due("of two, then bits 3", Checks.ARGUMENT, withTwo(Build.far(3, 0), 3));
        long half = Build.far(3, 0);
        due("of two, one is there", Checks.BOUNDS, withPad(Build.farOfTwo(1, 1), 77, half));
        due("of two, none is there", Checks.BOUNDS, withPad(Build.farOfTwo(1, 2), 77, half));
    }

    private static void theOrder() {
        // A pad that is not there comes before one that is not as said.
        due("half a wrong pad", Checks.BOUNDS, withPad(Build.farOfTwo(1, 0), 3));
        // A pad that is not as said comes before a beginning that is none.
        due("a wrong pad", Checks.ARGUMENT, withTwo(Build.far(9, 9), 3));
        // Words that are not there come before a tag that is none.
        dueBehindRoot("a wrong tag", Checks.BOUNDS, Build.list(0, 7, 1), 3);
        // A tag that is none comes before the budget.
        PointedWords x = Build.behindRoot(Build.list(0, 7, 2), 3, 0, 0);
        x.budget(1);
        due("a wrong tag and no budget", Checks.ARGUMENT, x);
        // The words come before the budget.
        dueBehindRoot("64 words that are not there", Checks.BOUNDS, Build.struct(0, 64, 0));
        // The tag comes before the depth.
        PointedWords deep = Build.chain(8, Build.list(0, 7, 0), 3);
        openDown(deep, 8);
        Checks.due("a wrong tag too deep", Checks.ARGUMENT, () -> deep.go(7, 0));
        Checks.due("a wrong tag too deep, form", Checks.ARGUMENT, () -> deep.form());
        PointedWords away = Build.chain(8, Build.struct(0, 1, 0));
        openDown(away, 8);
        Checks.due("out of bounds too deep", Checks.BOUNDS, () -> away.go(7, 0));
        Checks.due("out of bounds too deep, form", Checks.BOUNDS, () -> away.form());
    }

    private static void dueCost(String what, int cost, long pointer, long... others) {
        PointedWords x = Build.behindRoot(pointer, others);
        x.budget(1 + cost);
        due(what + " for all that is left", "1", x);
        Checks.due(what + " takes it", 0, () -> x.left());
        x.budget(cost);
        due(what + " for one less", Checks.STATE, x);
    }

    private static void costs() {
        dueCost("a struct without words", 1, Build.struct(-1, 0, 0));
        dueCost("a struct", 3, Build.struct(0, 1, 2), 1, 0, 0);
        dueCost("a list of kind 0 without elements", 1, Build.list(0, 0, 0));
        dueCost("a list of kind 0", 17, Build.list(0, 0, 17));
        dueCost("a list of kind 0, the dearest", 62, Build.list(0, 0, 62));
        int[] bits = {0, 1, 8, 16, 32, 64, 64};
        for (int kind = 1; kind < 7; kind++) {
            dueCost("no elements, kind " + kind, 1, Build.list(0, kind, 0));
            dueCost("one element, kind " + kind, 1, Build.list(0, kind, 1), 0, 0);
            int inTwo = 64 / bits[kind] + 1;
            dueCost("two words, kind " + kind, 2, Build.list(0, kind, inTwo), 0, 0);
        }
        dueCost("kind 7 without elements", 1, Build.list(0, 7, 0), Build.tag(0, 3, 3));
        dueCost("kind 7, n above m", 4, Build.list(0, 7, 3), Build.tag(1, 1, 0), 1, 2, 3);
        dueCost("kind 7, m above n", 6, Build.list(0, 7, 1), Build.tag(5, 0, 0), 1);
        dueCost("kind 7, n is m", 3, Build.list(0, 7, 2), Build.tag(2, 1, 0), 1, 2);
        PointedWords far = withTwo(Build.far(3, 0), Build.list(0, 5, 3));
        far.open();
        far.go(0, 0);
        Checks.due("pads cost nothing", 59, () -> far.left());
        PointedWords refused = Build.behindRoot(Build.list(0, 0, 63), 0);
        due("more than was left", Checks.STATE, refused);
    }

    private static void openDown(PointedWords x, int depth) {
        x.open();
        for (int d = 1; d < depth; d++) {
            int owner = d - 1;
            Checks.due("going down", d, () -> x.go(owner, 0));
            int handle = d;
            Checks.due("depth", d + 1, () -> x.about(handle, 6));
        }
    }

    private static void depths() {
        PointedWords x = Build.chain(8, 0);
        openDown(x, 8);
        Checks.due("null below depth 8", PointedWords.NONE, () -> x.go(7, 0));
        Checks.due("form of depth 8", 8, () -> x.form());
        PointedWords deep = Build.chain(8, Build.struct(-1, 0, 0));
        openDown(deep, 8);
        Checks.due("depth 9", Checks.STATE, () -> deep.go(7, 0));
        Checks.due("depth 9 takes nothing", 55, () -> deep.left());
        Checks.due("depth 9 is no handle", Checks.NO_SUCH, () -> deep.about(8, 0));
        Checks.due("form of depth 9", Checks.STATE, () -> deep.form());
        Checks.due("there is no form", 0, () -> deep.formed(0));
        Checks.due("depth 9 by a list", Checks.STATE, () -> {
            PointedWords list = Build.chain(8, Build.list(0, 0, 0));
            return list.form();
        });
        // An element has its list's depth, so that the list may be of depth 8.
        PointedWords list = Build.chain(7, Build.list(0, 7, 1), Build.tag(1, 0, 1), 0);
        openDown(list, 8);
        Checks.due("an element at depth 8", 8, () -> list.element(7, 0));
        Checks.due("its depth", 8, () -> list.about(8, 6));
        Checks.due("its null pointer", PointedWords.NONE, () -> list.go(8, 0));
        Checks.due("its form", 9, () -> list.form());
        list.change(0, 9, Build.list(0, 0, 0));
        openDown(list, 8);
        list.element(7, 0);
        Checks.due("below an element", Checks.STATE, () -> list.go(8, 0));
        Checks.due("below an element, form", Checks.STATE, () -> list.form());
    }
}
