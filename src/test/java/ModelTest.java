import java.util.ArrayList;
import java.util.List;
import java.util.Map;
import java.util.Random;
import java.util.TreeMap;

/** Many runs of calls on new objects, compared with the model; always the same ones. */
public final class ModelTest {
    private static final int RUNS = 6000;
    private static final int CALLS = 500;
    private static final String[] MUST_OCCUR = {
        "open " + Checks.BOUNDS, "open " + Checks.NO_SUCH, "open " + Checks.ARGUMENT,
        "open " + Checks.STATE, "open a number", "go " + Checks.NO_SUCH,
        "go " + Checks.UNSUPPORTED, "go " + Checks.BOUNDS, "go " + Checks.STATE,
        "go " + Checks.ARGUMENT, "go a number", "element " + Checks.NO_SUCH,
        "element " + Checks.UNSUPPORTED, "element " + Checks.BOUNDS, "element " + Checks.STATE,
        "element a number", "about " + Checks.NO_SUCH, "about " + Checks.BOUNDS, "about a number",
        "data " + Checks.NO_SUCH, "data " + Checks.UNSUPPORTED, "data " + Checks.BOUNDS,
        "data a number", "form " + Checks.BOUNDS, "form " + Checks.NO_SUCH,
        "form " + Checks.ARGUMENT, "form " + Checks.STATE, "form a number",
    };

    private final Random random;
    private final PointedWords x = new PointedWords();
    private final Model model = new Model();
    private final Map<String, Integer> occurred;
    private final List<String> told = new ArrayList<>();
    /** Without changes of the message, so that all handles come into use. */
    private final boolean calm;
    private boolean wrong = false;

    private ModelTest(long seed, Map<String, Integer> occurred) {
        random = new Random(seed);
        calm = random.nextInt(3) == 0;
        this.occurred = occurred;
    }

    public static void main(String[] args) {
        int runs = args.length > 0 ? Integer.parseInt(args[0]) : RUNS;
        Map<String, Integer> occurred = new TreeMap<>();
        int wrongRuns = 0;
        for (int run = 0; run < runs && wrongRuns < 3; run++) {
            ModelTest test = new ModelTest(run, occurred);
            test.run();
            Checks.due("run " + run, false, test.wrong);
            wrongRuns += test.wrong ? 1 : 0;
        }
        for (String answer : MUST_OCCUR) {
            Checks.due("runs with " + answer, true, occurred.getOrDefault(answer, 0) >= 20);
        }
        Checks.end();
    }

    private void run() {
        boolean inOrder = random.nextInt(4) != 0;
        if (inOrder) {
            layOut();
        } else {
            scatter();
        }
        for (int step = 0; step < CALLS && told.size() < CALLS && !wrong; step++) {
            oneCall();
        }
    }

    private void compare(String call, Checks.Call got, Checks.Call want) {
        String due = Checks.answerOf(want);
        String answer = Checks.answerOf(got);
        told.add(call + " = " + answer);
        String name = call.substring(0, call.indexOf('('));
        occurred.merge(name + " " + (due.startsWith("throws") ? due : "a number"), 1, Integer::sum);
        if (!answer.equals(due)) {
            wrong = true;
            for (String line : told.subList(Math.max(0, told.size() - 90), told.size())) {
                System.out.println("    " + line);
            }
            System.out.println("    due is " + due);
        }
    }

    private static long asNumber(boolean answer) {
        return answer ? 1 : 0;
    }

    private void addWord(int s, long word) {
        compare("add(" + s + ", " + word + ")", () -> x.add(s, word), () -> model.add(s, word));
    }

    private void changeWord(int s, int i, long word) {
        compare("change(" + s + ", " + i + ", " + word + ")",
                () -> asNumber(x.change(s, i, word)), () -> asNumber(model.change(s, i, word)));
    }

    /** Words of all kinds without a plan, most of them pointers that stay near. */
    private void scatter() {
        for (int s = 0; s < 4; s++) {
            int count = random.nextInt(random.nextInt(4) == 0 ? 65 : 12);
            for (int i = 0; i < count; i++) {
                addWord(s, anyWord());
            }
        }
    }

    private long anyWord() {
        int b = random.nextInt(10) - 4;
        switch (random.nextInt(16)) {
            case 0:
            case 1:
            case 2:
                return 0;
            case 3:
            case 4:
            case 5:
                return Build.struct(b, random.nextInt(3), random.nextInt(3));
            case 6:
            case 7:
                return Build.list(b, random.nextInt(8), random.nextInt(6));
            case 8:
                return Build.list(b, 7, random.nextInt(5));
            case 9:
                return Build.tag(random.nextInt(4), random.nextInt(2), random.nextInt(2));
            case 10:
                return Build.far(random.nextInt(5), random.nextInt(8));
            case 11:
                return Build.farOfTwo(random.nextInt(5), random.nextInt(8));
            case 12:
                return Build.list(b, random.nextInt(6), random.nextInt(70));
            case 13:
                return random.nextLong();
            case 14:
                return random.nextInt(8);
            default:
                return random.nextLong() << random.nextInt(64) >>> random.nextInt(64);
        }
    }

    /** A message that is right, in any order, with far pointers and unused words. */
    private void layOut() {
        long[][] rows = new long[4][64];
        int[] sizes = new int[4];
        sizes[0] = 1;
        int most = 1 + random.nextInt(9);
        place(rows, sizes, new int[] {0, 0}, 1, most, true);
        for (int s = 0; s < 4; s++) {
            for (int i = 0; i < sizes[s]; i++) {
                addWord(s, rows[s][i]);
            }
        }
    }

    /** Takes words of a segment: the first one, or -1. */
    private int take(int[] sizes, int s, int count) {
        int unused = random.nextInt(8) == 0 ? 1 : 0;
        if (sizes[s] + unused + count > 64) {
            return -1;
        }
        sizes[s] += unused + count;
        return sizes[s] - count;
    }

    private void place(
            long[][] rows, int[] sizes, int[] at, int depth, int most, boolean mustBeStruct) {
        int shape = mustBeStruct ? 0 : random.nextInt(11);
        int kind = shape < 3 ? -1 : shape - 3;
        int d = random.nextInt(3);
        int p = depth >= most ? 0 : random.nextInt(3);
        int n = random.nextInt(kind == 1 ? 140 : kind > 0 && kind < 5 ? 20 : 4);
        int[] bits = {0, 1, 8, 16, 32, 64, 64};
        int spare = random.nextInt(6) == 0 ? 1 : 0;
        int size = kind < 0 ? d + p
                : kind == 7 ? 1 + n * (d + p) + spare : (n * bits[kind] + 63) / 64;
        int s = random.nextInt(3) == 0 ? random.nextInt(4) : at[0];
        int first = take(sizes, s, size);
        if (first < 0) {
            return;
        }
        long pointer = kind < 0
                ? Build.struct(0, d, p)
                : Build.list(0, kind, kind == 7 ? size - 1 : n);
        if (!lead(rows, sizes, at, s, first, pointer)) {
            return;
        }
        if (kind < 0) {
            fill(rows, sizes, new int[] {s, first}, new int[] {d, p}, depth, most);
        } else if (kind == 7) {
            rows[s][first] = Build.tag(n, d, p);
            for (int k = 0; k < n; k++) {
                int[] begin = {s, first + 1 + k * (d + p)};
                fill(rows, sizes, begin, new int[] {d, p}, depth, most);
            }
        } else if (kind == 6) {
            fill(rows, sizes, new int[] {s, first}, new int[] {0, n}, depth, most);
        } else {
            for (int k = 0; k < size; k++) {
                rows[s][first + k] = random.nextLong();
            }
        }
    }

    private void fill(long[][] rows, int[] sizes, int[] begin, int[] counts, int depth, int most) {
        for (int k = 0; k < counts[0]; k++) {
            rows[begin[0]][begin[1] + k] = random.nextInt(2) == 0 ? 0 : random.nextLong();
        }
        for (int k = 0; k < counts[1]; k++) {
            if (random.nextInt(4) != 0 && depth < most) {
                int[] at = {begin[0], begin[1] + counts[0] + k};
                place(rows, sizes, at, depth + 1, most, false);
            }
        }
    }

    private static long withOffset(long pointer, int b) {
        return pointer | Build.struct(b, 0, 0);
    }

    /** Makes the word at a place lead to words that were taken; with one pad or two if need be. */
    private boolean lead(long[][] rows, int[] sizes, int[] at, int s, int first, long pointer) {
        boolean near = s == at[0];
        if (near && random.nextInt(8) != 0) {
            long word = withOffset(pointer, first - at[1] - 1);
            // A struct without words, right behind its pointer, would be null.
            rows[at[0]][at[1]] = word == 0 ? Build.struct(-1, 0, 0) : word;
            return true;
        }
        if (random.nextBoolean()) {
            int pad = take(sizes, s, 1);
            if (pad < 0) {
                return false;
            }
            long word = withOffset(pointer, first - pad - 1);
            rows[s][pad] = word == 0 ? Build.struct(-1, 0, 0) : word;
            rows[at[0]][at[1]] = Build.far(s, pad);
            return true;
        }
        int padSegment = random.nextInt(4);
        int pad = take(sizes, padSegment, 2);
        if (pad < 0) {
            return false;
        }
        rows[padSegment][pad] = Build.far(s, first);
        rows[padSegment][pad + 1] = withOffset(pointer, 1 + random.nextInt(99));
        rows[at[0]][at[1]] = Build.farOfTwo(padSegment, pad);
        return true;
    }

    private int anyHandle() {
        int count = model.handleCount();
        return random.nextInt(12) == 0 || count == 0
                ? random.nextInt(18) - 1
                : random.nextInt(count);
    }

    private int anyNumber() {
        int[] edges = {-1, Integer.MAX_VALUE, Integer.MIN_VALUE, 64, 63, 16};
        return random.nextInt(20) == 0
                ? edges[random.nextInt(edges.length)]
                : random.nextInt(random.nextInt(3) == 0 ? 20 : 4);
    }

    private void oneCall() {
        int c = random.nextInt(100);
        if (c < 3) {
            if (!calm) {
                changes();
            }
        } else if (c < 10) {
            if (model.handleCount() == 0 || random.nextInt(calm ? 40 : 4) == 0) {
                compare("open()", () -> x.open(), () -> model.open());
            } else {
                compare("left()", () -> x.left(), () -> model.left());
            }
        } else if (c < 75) {
            handleCall();
        } else {
            formCall();
        }
    }

    private void changes() {
        int s = random.nextInt(20) == 0 ? random.nextInt(7) - 2 : random.nextInt(4);
        int i = anyNumber();
        switch (random.nextInt(5)) {
            case 0:
                addWord(s, anyWord());
                break;
            case 1:
            case 2:
                int there = (int) Math.max(1, model.words(s));
                changeWord(s, random.nextInt(8) == 0 ? i : random.nextInt(there), anyWord());
                break;
            case 3:
                int n = random.nextInt(2) == 0 ? i : (int) model.words(s) - random.nextInt(2);
                compare("cut(" + s + ", " + n + ")",
                        () -> asNumber(x.cut(s, n)), () -> asNumber(model.cut(s, n)));
                break;
            default:
                int budget = random.nextInt(3) == 0 ? random.nextInt(70) - 3 : 63;
                compare("budget(" + budget + ")",
                        () -> asNumber(x.budget(budget)), () -> asNumber(model.budget(budget)));
                break;
        }
    }

    private void handleCall() {
        int h = anyHandle();
        int k = anyNumber();
        String of = "(" + h + ", " + k + ")";
        switch (random.nextInt(5)) {
            case 0:
            case 1:
                compare("go" + of, () -> x.go(h, k), () -> model.go(h, k));
                break;
            case 2:
                compare("element" + of, () -> x.element(h, k), () -> model.element(h, k));
                break;
            case 3:
                int part = random.nextInt(20) == 0 ? k : random.nextInt(9) - 1;
                compare("about(" + h + ", " + part + ")",
                        () -> x.about(h, part), () -> model.about(h, part));
                break;
            default:
                compare("data" + of, () -> x.data(h, k), () -> model.data(h, k));
                break;
        }
    }

    private void formCall() {
        int i = random.nextInt(3) == 0 ? anyNumber() : random.nextInt(64);
        int s = random.nextInt(20) == 0 ? random.nextInt(7) - 2 : random.nextInt(4);
        switch (random.nextInt(16)) {
            case 0:
            case 1:
            case 2:
                compare("form()", () -> x.form(), () -> model.form());
                break;
            case 3:
                if (random.nextInt(calm ? 40 : 4) == 0) {
                    compare("adopt()", () -> asNumber(x.adopt()), () -> asNumber(model.adopt()));
                }
                break;
            case 4:
                compare("keep()", () -> asNumber(x.keep()), () -> asNumber(model.keep()));
                break;
            case 5:
            case 6:
                compare("same()", () -> asNumber(x.same()), () -> asNumber(model.same()));
                break;
            case 7:
                compare("words(" + s + ")", () -> x.words(s), () -> model.words(s));
                break;
            case 8:
                compare("word(" + s + ", " + i + ")", () -> x.word(s, i), () -> model.word(s, i));
                break;
            default:
                compare("formed(" + i + ")", () -> x.formed(i), () -> model.formed(i));
                break;
        }
    }
}
