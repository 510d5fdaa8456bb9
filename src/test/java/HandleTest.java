/** Promises 10 to 13: go, element, about, data. */
public final class HandleTest {
    public static void main(String[] args) {
        goingFromStructs();
        goingFromLists();
        goingFromOthers();
        elements();
        sixteenHandles();
        parts();
        handlesUsedAgain();
        dataOfStructs();
        dataOfLists();
        dataOfOthers();
        wrongHandles();
        Checks.end();
    }

    private static void goingFromStructs() {
        PointedWords x = Build.message(Build.struct(0, 1, 3), Build.struct(9, 9, 9),
                Build.list(2, 5, 1), 0, Build.struct(1, 0, 0), 42);
        x.open();
        Checks.due("pointer 0", 1, () -> x.go(0, 0));
        Checks.due("what it leads to", 42, () -> x.data(1, 0));
        Checks.due("a null pointer", PointedWords.NONE, () -> x.go(0, 1));
        Checks.due("the last pointer", 2, () -> x.go(0, 2));
        Checks.due("what that leads to", 0, () -> x.about(2, 0));
        int left = x.left();
        Checks.due("one that it does not have", PointedWords.NONE, () -> x.go(0, 3));
        Checks.due("one far off", PointedWords.NONE, () -> x.go(0, Integer.MAX_VALUE));
        Checks.due("one below 0", Checks.BOUNDS, () -> x.go(0, -1));
        Checks.due("one far below 0", Checks.BOUNDS, () -> x.go(0, Integer.MIN_VALUE));
        Checks.due("left() stays", left, () -> x.left());
        Checks.due("no handle was made", Checks.NO_SUCH, () -> x.about(3, 0));
        Checks.due("the same again is another handle", 3, () -> x.go(0, 0));
        Checks.due("and is paid again", left - 1, () -> x.left());
    }

    private static void goingFromLists() {
        PointedWords x = Build.behindRoot(Build.list(0, 6, 3), Build.struct(2, 1, 0), 0,
                Build.list(0, 2, 8), 7);
        x.open();
        Checks.due("the list", 1, () -> x.go(0, 0));
        Checks.due("pointer 0 of a list", 2, () -> x.go(1, 0));
        Checks.due("its data", 7, () -> x.data(2, 0));
        Checks.due("its depth", 3, () -> x.about(2, 6));
        Checks.due("null in a list", PointedWords.NONE, () -> x.go(1, 1));
        Checks.due("the last of a list", 3, () -> x.go(1, 2));
        Checks.due("behind the last", Checks.BOUNDS, () -> x.go(1, 3));
        Checks.due("before the first", Checks.BOUNDS, () -> x.go(1, -1));
    }

    private static void goingFromOthers() {
        for (int kind = 0; kind < 6; kind++) {
            PointedWords x = Build.behindRoot(Build.list(0, kind, 1), Build.struct(-1, 0, 0));
            x.open();
            x.go(0, 0);
            Checks.due("go, kind " + kind, Checks.UNSUPPORTED, () -> x.go(1, 0));
            Checks.due("go, kind " + kind + ", k -1", Checks.UNSUPPORTED, () -> x.go(1, -1));
            Checks.due("element, kind " + kind, Checks.UNSUPPORTED, () -> x.element(1, 0));
            Checks.due("element, kind " + kind + ", k 5", Checks.UNSUPPORTED,
                    () -> x.element(1, 5));
        }
        PointedWords x = Build.behindRoot(Build.list(0, 7, 1), Build.tag(1, 0, 1), 0);
        x.open();
        x.go(0, 0);
        Checks.due("go, kind 7", Checks.UNSUPPORTED, () -> x.go(1, 0));
        Checks.due("go, kind 7, k 9", Checks.UNSUPPORTED, () -> x.go(1, 9));
        Checks.due("element of a struct", Checks.UNSUPPORTED, () -> x.element(0, 0));
        PointedWords y = Build.behindRoot(Build.list(0, 6, 1), 0);
        y.open();
        y.go(0, 0);
        Checks.due("element of a list of pointers", Checks.UNSUPPORTED, () -> y.element(1, 0));
        Checks.due("data of a list of pointers", Checks.UNSUPPORTED, () -> y.data(1, 0));
    }

    private static void elements() {
        PointedWords x = Build.behindRoot(Build.list(0, 7, 7), Build.tag(3, 1, 1),
                10, Build.struct(-1, 0, 0), 11, 0, 12, Build.list(0, 5, 1), 99);
        x.open();
        x.go(0, 0);
        int left = x.left();
        for (int k = 0; k < 3; k++) {
            int number = k;
            int handle = 2 + k;
            Checks.due("element", handle, () -> x.element(1, number));
            Checks.due("shape of an element", 0, () -> x.about(handle, 0));
            Checks.due("data words of an element", 1, () -> x.about(handle, 1));
            Checks.due("pointers of an element", 1, () -> x.about(handle, 2));
            Checks.due("part 3 of an element", 0, () -> x.about(handle, 3));
            Checks.due("segment of an element", 0, () -> x.about(handle, 4));
            Checks.due("begin of an element", 3 + 2 * k, () -> x.about(handle, 5));
            Checks.due("depth of an element", 2, () -> x.about(handle, 6));
            Checks.due("data of an element", 10 + k, () -> x.data(handle, 0));
            Checks.due("more data of an element", 0, () -> x.data(handle, 1));
        }
        Checks.due("an element costs nothing", left, () -> x.left());
        Checks.due("element -1", Checks.BOUNDS, () -> x.element(1, -1));
        Checks.due("element 3", Checks.BOUNDS, () -> x.element(1, 3));
        Checks.due("pointer of element 2", 5, () -> x.go(4, 0));
        Checks.due("what it leads to", 99, () -> x.data(5, 0));
        Checks.due("its depth", 3, () -> x.about(5, 6));
        Checks.due("pointer of element 1", PointedWords.NONE, () -> x.go(3, 0));
        Checks.due("element of an element", Checks.UNSUPPORTED, () -> x.element(2, 0));
        PointedWords none = Build.behindRoot(Build.list(0, 7, 0), Build.tag(3, 0, 0));
        none.open();
        none.go(0, 0);
        Checks.due("an element without words", 2, () -> none.element(1, 2));
        Checks.due("where it begins", 3, () -> none.about(2, 5));
        Checks.due("its data", 0, () -> none.data(2, 0));
        Checks.due("its pointers", PointedWords.NONE, () -> none.go(2, 0));
    }

    private static void sixteenHandles() {
        PointedWords x = Build.message(Build.struct(0, 0, 4), Build.list(3, 7, 2), 0, 3,
                Build.list(2, 6, 1), Build.tag(2, 1, 0), 5, 6);
        x.open();
        x.go(0, 0);
        x.go(0, 3);
        for (int h = 3; h < 16; h++) {
            int handle = h;
            Checks.due("a handle more", handle, () -> x.element(1, handle % 2));
        }
        int left = x.left();
        Checks.due("a 17th by element", Checks.STATE, () -> x.element(1, 0));
        Checks.due("a 17th by go", Checks.STATE, () -> x.go(0, 0));
        Checks.due("before what finding throws", Checks.STATE, () -> x.go(0, 2));
        Checks.due("null needs no handle", PointedWords.NONE, () -> x.go(0, 1));
        Checks.due("one not there needs none", PointedWords.NONE, () -> x.go(0, 4));
        Checks.due("k is looked at before, go", Checks.BOUNDS, () -> x.go(0, -1));
        Checks.due("k is looked at before, go of a list", Checks.BOUNDS, () -> x.go(2, 1));
        Checks.due("k is looked at before, element", Checks.BOUNDS, () -> x.element(1, 2));
        Checks.due("the kind is looked at before, go", Checks.UNSUPPORTED, () -> x.go(1, 0));
        Checks.due("the kind is looked at before", Checks.UNSUPPORTED, () -> x.element(0, 0));
        Checks.due("handle 16", Checks.NO_SUCH, () -> x.go(16, 0));
        Checks.due("left() stays", left, () -> x.left());
        Checks.due("the last handle", 6, () -> x.data(15, 0));
        x.open();
        Checks.due("free again", 1, () -> x.go(0, 0));
    }

    private static void dueParts(String what, PointedWords x, int handle, int... parts) {
        for (int p = 0; p < parts.length; p++) {
            int part = p;
            Checks.due("part " + p + " of " + what, parts[p], () -> x.about(handle, part));
        }
        Checks.due("part -1 of " + what, Checks.BOUNDS, () -> x.about(handle, -1));
        Checks.due("part 7 of " + what, Checks.BOUNDS, () -> x.about(handle, 7));
    }

    private static void parts() {
        PointedWords x = Build.message(Build.struct(1, 2, 9), 0, 100, 101);
        for (int kind = 0; kind < 7; kind++) {
            x.add(0, Build.list(8 - kind, kind, kind + 1));
        }
        Build.addAll(x, 0, Build.list(8, 7, 6), Build.far(3, 0));
        for (int i = 0; i < 7; i++) {
            x.add(0, 0);
        }
        Build.addAll(x, 0, Build.tag(2, 1, 2), 0, 0, 0, 0, 0, 0);
        Build.addAll(x, 3, Build.struct(1, 1, 0), 0, 5);
        x.open();
        dueParts("the root", x, 0, 0, 2, 9, 0, 0, 2, 1);
        for (int kind = 0; kind < 7; kind++) {
            int number = kind;
            Checks.due("go", 1 + kind, () -> x.go(0, number));
            dueParts("kind " + kind, x, 1 + kind, 1 + kind, kind + 1, 0, 0, 0, 13, 2);
        }
        x.go(0, 7);
        dueParts("kind 7", x, 8, 8, 2, 2, 1, 0, 21, 2);
        x.go(0, 8);
        dueParts("a far struct", x, 9, 0, 1, 0, 0, 3, 2, 2);
        PointedWords wide = Build.behindRoot(Build.list(0, 7, 0), Build.tag(0, 65535, 65534));
        wide.open();
        wide.go(0, 0);
        dueParts("no elements", wide, 1, 8, 0, 65534, 65535, 0, 3, 2);
    }

    /** Nothing of what a handle stood for before is told of what it stands for now. */
    private static void handlesUsedAgain() {
        PointedWords x = Build.message(Build.struct(0, 0, 4), Build.far(1, 0), Build.list(2, 5, 2),
                Build.struct(1, 1, 1), Build.far(2, 0), 8, 0);
        Build.addAll(x, 1, Build.list(0, 7, 6), Build.tag(2, 2, 1), 1, 2, 0, 3, 4, 0);
        Build.addAll(x, 2, Build.list(0, 6, 2), 0, 0);
        for (int before = 0; before < 4; before++) {
            dueAgain(x, before, 0, 8, 2, 1, 2, 1, 2, 2);
            dueAgain(x, before, 1, 6, 2, 0, 0, 0, 5, 2);
            dueAgain(x, before, 2, 0, 1, 1, 0, 0, 5, 2);
            dueAgain(x, before, 3, 7, 2, 0, 0, 2, 1, 2);
            x.open();
            x.go(0, before);
            x.go(0, before);
            x.open();
            x.go(0, 0);
            x.element(1, 1);
            dueParts("an element, its handle used again", x, 2, 0, 2, 1, 0, 1, 5, 2);
        }
    }

    private static void dueAgain(PointedWords x, int before, int k, int... parts) {
        x.open();
        x.go(0, before);
        x.open();
        x.go(0, k);
        dueParts("what pointer " + k + " leads to, its handle used again", x, 1, parts);
    }

    private static void dataOfStructs() {
        PointedWords x = Build.message(Build.struct(0, 2, 1), -5, 6, Build.struct(-1, 0, 0));
        x.open();
        Checks.due("data 0", -5, () -> x.data(0, 0));
        Checks.due("data 1", 6, () -> x.data(0, 1));
        Checks.due("a pointer is no data", 0, () -> x.data(0, 2));
        Checks.due("data far off", 0, () -> x.data(0, Integer.MAX_VALUE));
        Checks.due("data -1", Checks.BOUNDS, () -> x.data(0, -1));
        Checks.due("data far below", Checks.BOUNDS, () -> x.data(0, Integer.MIN_VALUE));
    }

    private static void dataOfLists() {
        long first = 0xFEDCBA9876543210L;
        long second = 0x8000000000000001L;
        int[] bits = {0, 1, 8, 16, 32, 64};
        for (int kind = 0; kind < 6; kind++) {
            int n = kind == 0 ? 5 : 128 / bits[kind];
            PointedWords x = Build.behindRoot(Build.list(0, kind, n), first, second);
            x.open();
            x.go(0, 0);
            for (int k = 0; k < n; k++) {
                int number = k;
                Checks.due("element " + k + " of kind " + kind,
                        elementOf(first, second, bits[kind], k), () -> x.data(1, number));
            }
            Checks.due("behind the last of kind " + kind, Checks.BOUNDS, () -> x.data(1, n));
            Checks.due("before the first of kind " + kind, Checks.BOUNDS, () -> x.data(1, -1));
        }
        PointedWords none = Build.behindRoot(Build.list(0, 0, 0), 0);
        none.open();
        none.go(0, 0);
        Checks.due("no element of 0 bits", Checks.BOUNDS, () -> none.data(1, 0));
    }

    /** Bit by bit, as the text says it: the first element in the lowest bits. */
    private static long elementOf(long first, long second, int bits, int k) {
        long value = 0;
        for (int b = 0; b < bits; b++) {
            int at = k * bits + b;
            long word = at < 64 ? first : second;
            value += ((word >> (at % 64)) & 1L) << b;
        }
        return value;
    }

    private static void dataOfOthers() {
        PointedWords x = Build.behindRoot(Build.list(0, 7, 1), Build.tag(1, 1, 0), 4);
        x.open();
        x.go(0, 0);
        Checks.due("data of kind 7", Checks.UNSUPPORTED, () -> x.data(1, 0));
        Checks.due("data -1 of kind 7", Checks.UNSUPPORTED, () -> x.data(1, -1));
        PointedWords y = Build.behindRoot(Build.list(0, 6, 1), 0);
        y.open();
        y.go(0, 0);
        Checks.due("data of kind 6", Checks.UNSUPPORTED, () -> y.data(1, 0));
        Checks.due("data 9 of kind 6", Checks.UNSUPPORTED, () -> y.data(1, 9));
    }

    private static void wrongHandles() {
        PointedWords x = Build.message(Build.struct(0, 1, 0), 5);
        for (int h : new int[] {-1, 0, 1, 15, 16, Integer.MAX_VALUE, Integer.MIN_VALUE}) {
            dueNoHandle(x, h);
        }
        x.open();
        for (int h : new int[] {-1, 1, 15, 16, Integer.MAX_VALUE, Integer.MIN_VALUE}) {
            dueNoHandle(x, h);
        }
    }

    private static void dueNoHandle(PointedWords x, int h) {
        Checks.due("go of no handle", Checks.NO_SUCH, () -> x.go(h, -1));
        Checks.due("element of no handle", Checks.NO_SUCH, () -> x.element(h, -1));
        Checks.due("about of no handle", Checks.NO_SUCH, () -> x.about(h, 0));
        Checks.due("about of no handle, no part", Checks.NO_SUCH, () -> x.about(h, 7));
        Checks.due("data of no handle", Checks.NO_SUCH, () -> x.data(h, -1));
    }
}
