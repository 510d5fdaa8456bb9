/** What is due of a whole object, of an object that is found, or of a form. */
final class Expect {
    /** Numbers that no row of the document has. */
    static final int[] FAR_OFF = {-1, Integer.MIN_VALUE, Integer.MAX_VALUE};

    private Expect() {}

    /** The first pointer of the root leads to an object that has these parts, from 0 on. */
    static void found(String what, PointedWords x, int... parts) {
        x.open();
        Checks.due(what + ": go(0, 0)", 1, () -> x.go(0, 0));
        parts(what, x, 1, parts);
    }

    /** What the first pointer of the root leads to is not found, by a handle or for the form. */
    static void refused(String what, String want, PointedWords x) {
        x.open();
        Checks.due(what + ": go(0, 0)", want, () -> x.go(0, 0));
        Checks.due(what + ": form()", want, () -> x.form());
    }

    /** The root itself is not found. */
    static void refusedRoot(String what, String want, PointedWords x) {
        Checks.due(what + ": open()", want, () -> x.open());
        Checks.due(what + ": form()", want, () -> x.form());
    }

    static void parts(String what, PointedWords x, int handle, int... parts) {
        for (int p = 0; p < parts.length; p++) {
            int part = p;
            Checks.due(what + ": part " + p, parts[p], () -> x.about(handle, part));
        }
    }

    static void form(String what, PointedWords x, long... words) {
        Checks.due(what + ": form()", words.length, () -> x.form());
        for (int i = 0; i < words.length; i++) {
            int number = i;
            Checks.due(what + ": formed(" + i + ")", words[i], () -> x.formed(number));
        }
    }
}
