import java.util.ArrayList;
import java.util.List;
import java.util.function.Consumer;
import java.util.function.Function;
import java.util.function.ToIntFunction;

/**
 * A call that returns an error changes nothing: each one comes to one of two objects that were made by like calls, and
 * both must show the same in all later calls. Each view asks an object of its own, so that no object gets 512 calls.
 */
final class RefusedCalls {
    private static final int INVALID = QuantileDigests.INVALID_ARGUMENT;
    private static final int NOT_POSSIBLE = QuantileDigests.NOT_POSSIBLE;
    private static final int LIMIT = QuantileDigests.LIMIT_REACHED;
    private static final int NOT_FOUND = QuantileDigests.NOT_FOUND;
    private static final int HEAPS_SHOWN = 90;

    private static final List<Function<QuantileDigests, List<Integer>>> VIEWS = List.of(RefusedCalls::numbers,
        x -> heaps(x, 0), x -> heaps(x, 1), x -> heaps(x, 2), x -> quantiles(x, 0), x -> quantiles(x, 1),
        x -> quantiles(x, 2), RefusedCalls::undone, RefusedCalls::played, RefusedCalls::changed);

    private final Sentence sentence;
    private final Consumer<QuantileDigests> maker;

    private RefusedCalls(Sentence sentence, Consumer<QuantileDigests> maker) {
        this.sentence = sentence;
        this.maker = maker;
    }

    static void test() {
        Sentence s = new Sentence("Changes and errors", "A call that returns an error changes nothing.");
        atFirst(new RefusedCalls(s, x -> { }));
        withSome(new RefusedCalls(s, RefusedCalls::makeSome));
        whenFull(new RefusedCalls(s, RefusedCalls::makeFull));
        whenTextIsTooHeavy(new RefusedCalls(s, RefusedCalls::makeHeavyText));
    }

    /** Heaps and buffers, four states, and a text whose second part has no digest. */
    private static void makeSome(QuantileDigests x) {
        Made.put(x, 0, 50, 10, 90, 30, 70, 20, 20);
        Made.put(x, 1, 5, 6, 7);
        x.set(0, 3);
        x.set(1, 3);
        x.add(0, 9999, 4);
        x.join(1, 2);
        Made.write(x, "0:1,2;3:1;");
    }

    /** Weights of 200, 199 and 200, and a text of 60 characters that breaks off. */
    private static void makeFull(QuantileDigests x) {
        Made.fill(x, 0, 7, 100);
        Made.fill(x, 0, 3, 100);
        Made.fill(x, 1, 8, 199);
        Made.fill(x, 2, 9, 200);
        Made.write(x, "0".repeat(60));
    }

    /** A text whose last part is too heavy when those ahead of it are done. */
    private static void makeHeavyText(QuantileDigests x) {
        Made.fill(x, 1, 8, 198);
        Made.write(x, "0:1;1:2;2:3;1:4,5;");
    }

    private static void atFirst(RefusedCalls r) {
        wrongDigests(r, -1);
        wrongDigests(r, 3);
        wrongArguments(r);
        r.refused("quantile(0, 0)", NOT_POSSIBLE, x -> x.quantile(0, 0));
        r.refused("truth(0, 0)", NOT_POSSIBLE, x -> x.truth(0, 0));
        r.refused("worst(0, 0)", NOT_POSSIBLE, x -> x.worst(0, 0));
        r.refused("rank(0, 0)", NOT_POSSIBLE, x -> x.rank(0, 0));
        r.refused("width(0, 0)", NOT_POSSIBLE, x -> x.width(0, 0));
        r.refused("undo()", NOT_POSSIBLE, x -> x.undo());
        r.refused("heapOf(0, 0, 0)", NOT_FOUND, x -> x.heapOf(0, 0, 0));
        r.refused("bufferOf(0, 0)", NOT_FOUND, x -> x.bufferOf(0, 0));
        r.refused("digestOf(0, 3)", NOT_FOUND, x -> x.digestOf(0, 3));
        r.refused("settingFor(0, 1)", NOT_FOUND, x -> x.settingFor(0, 1));
        r.refused("fault(0)", NOT_FOUND, x -> x.fault(0));
    }

    private static void withSome(RefusedCalls r) {
        wrongDigests(r, -1);
        wrongDigests(r, 3);
        wrongArguments(r);
        r.refused("play()", NOT_POSSIBLE, x -> x.play());
        r.refused("settingFor(0, 12)", NOT_FOUND, x -> x.settingFor(0, 12));
        r.refused("heapOf(0, 20, 0)", NOT_FOUND, x -> x.heapOf(0, 20, 0));
        r.refused("bufferOf(0, 3)", NOT_FOUND, x -> x.bufferOf(0, 3));
        r.refused("fault(2)", NOT_FOUND, x -> x.fault(2));
    }

    private static void whenFull(RefusedCalls r) {
        wrongDigests(r, 3);
        wrongArguments(r);
        r.refused("add(0, 5, 1)", LIMIT, x -> x.add(0, 5, 1));
        r.refused("add(1, 5, 2)", LIMIT, x -> x.add(1, 5, 2));
        r.refused("add(2, 5, 20)", LIMIT, x -> x.add(2, 5, 20));
        r.refused("join(0, 1)", LIMIT, x -> x.join(0, 1));
        r.refused("join(1, 0)", LIMIT, x -> x.join(1, 0));
        r.refused("join(2, 0)", LIMIT, x -> x.join(2, 0));
        r.refused("type('0')", LIMIT, x -> x.type('0'));
        r.refused("play()", NOT_POSSIBLE, x -> x.play());
    }

    private static void whenTextIsTooHeavy(RefusedCalls r) {
        r.refused("play()", NOT_POSSIBLE, x -> x.play());
        r.refused("add(1, 5, 3)", LIMIT, x -> x.add(1, 5, 3));
        r.refused("fault(2)", NOT_FOUND, x -> x.fault(2));
        r.refused("fault(3)", INVALID, x -> x.fault(3));
    }

    private static void wrongDigests(RefusedCalls r, int digest) {
        r.refused("add to " + digest, INVALID, x -> x.add(digest, 5, 1));
        r.refused("pack " + digest, INVALID, x -> x.pack(digest));
        r.refused("join of " + digest, INVALID, x -> x.join(digest, 0));
        r.refused("join into " + digest, INVALID, x -> x.join(0, digest));
        r.refused("clear " + digest, INVALID, x -> x.clear(digest));
        r.refused("heapOf " + digest, INVALID, x -> x.heapOf(digest, 0, 0));
        r.refused("bufferOf " + digest, INVALID, x -> x.bufferOf(digest, 0));
        r.refused("digestOf " + digest, INVALID, x -> x.digestOf(digest, 6));
        r.refused("quantile of " + digest, INVALID, x -> x.quantile(digest, 0));
        r.refused("truth of " + digest, INVALID, x -> x.truth(digest, 0));
        r.refused("worst of " + digest, INVALID, x -> x.worst(digest, 0));
        r.refused("rank of " + digest, INVALID, x -> x.rank(digest, 0));
        r.refused("width of " + digest, INVALID, x -> x.width(digest, 0));
        r.refused("settingFor " + digest, INVALID, x -> x.settingFor(digest, 1));
    }

    private static void wrongArguments(RefusedCalls r) {
        r.refused("add(0, 10000, 1)", INVALID, x -> x.add(0, 10000, 1));
        r.refused("add(0, -1, 1)", INVALID, x -> x.add(0, -1, 1));
        r.refused("add(0, 5, 0)", INVALID, x -> x.add(0, 5, 0));
        r.refused("add(0, 5, 21)", INVALID, x -> x.add(0, 5, 21));
        r.refused("join(0, 0)", INVALID, x -> x.join(0, 0));
        r.refused("set(0, 0)", INVALID, x -> x.set(0, 0));
        r.refused("set(0, 61)", INVALID, x -> x.set(0, 61));
        r.refused("set(1, 0)", INVALID, x -> x.set(1, 0));
        r.refused("set(1, 21)", INVALID, x -> x.set(1, 21));
        r.refused("set(2, 1)", INVALID, x -> x.set(2, 1));
        r.refused("heapOf(0, 0, 7)", INVALID, x -> x.heapOf(0, 0, 7));
        r.refused("heapOf(0, -1, 0)", INVALID, x -> x.heapOf(0, -1, 0));
        r.refused("bufferOf(0, -1)", INVALID, x -> x.bufferOf(0, -1));
        r.refused("digestOf(0, 9)", INVALID, x -> x.digestOf(0, 9));
        r.refused("quantile(0, 1001)", INVALID, x -> x.quantile(0, 1001));
        r.refused("truth(0, 1001)", INVALID, x -> x.truth(0, 1001));
        r.refused("worst(0, 2)", INVALID, x -> x.worst(0, 2));
        r.refused("rank(0, 10000)", INVALID, x -> x.rank(0, 10000));
        r.refused("width(0, 1001)", INVALID, x -> x.width(0, 1001));
        r.refused("settingFor(0, 61)", INVALID, x -> x.settingFor(0, 61));
        r.refused("count(4)", INVALID, x -> x.count(4));
        r.refused("type(31)", INVALID, x -> x.type(31));
        r.refused("type(127)", INVALID, x -> x.type(127));
        r.refused("fault(3)", INVALID, x -> x.fault(3));
    }

    private void refused(String call, int error, ToIntFunction<QuantileDigests> refused) {
        for (int view = 0; view < VIEWS.size(); view++) {
            QuantileDigests without = new QuantileDigests();
            maker.accept(without);
            QuantileDigests with = new QuantileDigests();
            maker.accept(with);
            sentence.due(call, refused.applyAsInt(with), error);
            compare(call + ", then view " + view, VIEWS.get(view).apply(with), VIEWS.get(view).apply(without));
        }
    }

    private void compare(String call, List<Integer> with, List<Integer> without) {
        sentence.due(call + ", answers", with.size(), without.size());
        for (int i = 0; i < Math.min(with.size(), without.size()); i++) {
            sentence.due(call + ", answer " + i, with.get(i), without.get(i));
        }
    }

    private static List<Integer> numbers(QuantileDigests x) {
        List<Integer> shown = new ArrayList<>();
        addDigests(shown, x);
        for (int digest = 0; digest < 3; digest++) {
            for (int index = 0; index < 20; index++) {
                shown.add(x.bufferOf(digest, index));
            }
        }
        for (int what = 0; what < 3; what++) {
            shown.add(x.fault(what));
        }
        return shown;
    }

    private static void addDigests(List<Integer> shown, QuantileDigests x) {
        for (int what : new int[] {0, 1, 2, 3, 20, 21}) {
            shown.add(x.count(what));
        }
        for (int digest = 0; digest < 3; digest++) {
            for (int what = 0; what <= 8; what++) {
                shown.add(x.digestOf(digest, what));
            }
        }
    }

    private static List<Integer> heaps(QuantileDigests x, int digest) {
        List<Integer> shown = new ArrayList<>();
        for (int heap = 0; heap < HEAPS_SHOWN; heap++) {
            for (int what = 0; what < 4; what++) {
                shown.add(x.heapOf(digest, heap, what));
            }
        }
        return shown;
    }

    private static List<Integer> quantiles(QuantileDigests x, int digest) {
        List<Integer> shown = new ArrayList<>();
        for (int q = 0; q <= 1000; q += 20) {
            shown.add(x.quantile(digest, q));
            shown.add(x.truth(digest, q));
            shown.add(x.width(digest, q));
        }
        for (int value = 0; value < 100; value += 3) {
            shown.add(x.rank(digest, value));
        }
        for (int heaps = 1; heaps <= 60; heaps += 2) {
            shown.add(x.settingFor(digest, heaps));
        }
        shown.add(x.worst(digest, 0));
        shown.add(x.worst(digest, 1));
        return shown;
    }

    private static List<Integer> undone(QuantileDigests x) {
        List<Integer> shown = new ArrayList<>();
        for (int times = 0; times < 5; times++) {
            shown.add(x.undo());
            addDigests(shown, x);
        }
        return shown;
    }

    /** The text, with a ";" behind it if there is room, and when a part is typed anew. */
    private static List<Integer> played(QuantileDigests x) {
        List<Integer> shown = new ArrayList<>();
        shown.add(x.type(';'));
        shown.add(x.fault(0));
        shown.add(x.fault(1));
        shown.add(x.fault(2));
        shown.add(x.play());
        shown.add(x.clearText());
        Made.write(x, "0:1,2;2:3;");
        shown.add(x.play());
        addDigests(shown, x);
        return shown;
    }

    private static List<Integer> changed(QuantileDigests x) {
        List<Integer> shown = new ArrayList<>();
        shown.add(x.add(1, 4, 1));
        shown.add(x.join(1, 2));
        shown.add(x.pack(0));
        shown.add(x.set(0, 2));
        shown.add(x.set(1, 1));
        shown.add(x.clear(2));
        shown.add(x.add(2, 6, 7));
        shown.add(x.join(2, 1));
        addDigests(shown, x);
        return shown;
    }
}
