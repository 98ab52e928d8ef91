/** 'Changes and errors' of the document's terms, but for what a refused call leaves (see RefusedCalls). */
final class ChangeSentences {
    private static final String SECTION = "Changes and errors";

    private ChangeSentences() {
    }

    static void test() {
        changes();
        fourStates();
        everythingBefore();
        butTheText();
        fifthState();
        invalidRatherThanNotPossible();
        notPossibleRatherThanLimit();
        limitRatherThanNotFound();
        noDigest();
        constantOfInvalid();
        constantOfNotPossible();
        constantOfLimit();
        constantOfNotFound();
    }

    private static void changes() {
        Sentence s = new Sentence(SECTION,
            "The changes are the calls of add, pack, join, clear, set and play that return no error.");
        QuantileDigests x = new QuantileDigests();
        x.add(0, 1, 1);
        s.due("add", x.count(2), 1);
        x.pack(1);
        s.due("pack, also of an empty one", x.count(2), 2);
        x.join(1, 2);
        s.due("join, also of empty ones", x.count(2), 3);
        x.clear(2);
        s.due("clear, also of an empty one", x.count(2), 4);
        x = new QuantileDigests();
        x.set(0, 10);
        s.due("set, also to what it was", x.count(2), 1);
        x.play();
        s.due("play, also of no text", x.count(2), 2);
        x.undo();
        s.due("undo is none", x.count(2), 1);
        x.type('0');
        x.clearText();
        s.due("the text's calls are none", x.count(2), 1);
        x.add(0, 1, 21);
        x.pack(3);
        x.join(0, 0);
        x.clear(-1);
        x.set(0, 61);
        x.type(':');
        x.play();
        s.due("calls that return an error are none", x.count(2), 1);
        askAll(x);
        s.due("questions are none", x.count(2), 1);
    }

    private static void askAll(QuantileDigests x) {
        x.heapOf(0, 0, 0);
        x.bufferOf(0, 0);
        x.digestOf(0, 6);
        x.quantile(0, 0);
        x.truth(0, 0);
        x.worst(0, 0);
        x.rank(0, 0);
        x.width(0, 0);
        x.settingFor(0, 1);
        x.count(0);
        x.fault(0);
    }

    private static void fourStates() {
        Sentence s = new Sentence(SECTION, "A history of at most 4 states is kept");
        QuantileDigests x = new QuantileDigests();
        s.due("none at first", x.count(2), 0);
        for (int change = 1; change <= 9; change++) {
            x.add(0, change, 1);
            s.due("after change " + change, x.count(2), Math.min(change, 4));
        }
        for (int left = 3; left >= 0; left--) {
            s.due("undo", x.undo(), left);
        }
        s.notPossible("a fifth undo", x.undo());
        s.due("four of nine are taken back", x.digestOf(0, 0), 5);
    }

    private static void everythingBefore() {
        Sentence s = new Sentence(SECTION, "each change records everything before it");
        QuantileDigests x = Made.holding(10, 20, 30, 40, 50, 60);
        x.add(2, 70, 2);
        x.set(0, 1);
        x.set(1, 1);
        x.join(2, 0);
        x.undo();
        s.due("heaps", x.digestOf(0, 1), 5);
        s.due("a heap's sum", x.heapOf(0, 4, 1), 50);
        s.due("a heap's weight", x.heapOf(0, 0, 0), 1);
        s.due("buffer", x.bufferOf(0, 0), 60);
        s.due("packs of the latter", x.digestOf(0, 8), 1);
        s.due("packs of the former", x.digestOf(2, 8), 0);
        s.due("buffer of the former", x.digestOf(2, 2), 2);
        s.due("values", x.truth(0, 1000), 60);
        x.undo();
        s.due("setting 1", x.count(21), 5);
        s.due("setting 0 is of the state ahead", x.count(20), 1);
        x.undo();
        s.due("setting 0", x.count(20), 10);
    }

    private static void butTheText() {
        Sentence s = new Sentence(SECTION, "everything before it but the text");
        QuantileDigests x = Made.withText("0:1;");
        x.play();
        Made.write(x, "0:1,2;");
        x.undo();
        s.due("the text stays as it is", x.count(3), 6);
        s.due("and can be played", x.play(), 2);
        x.clearText();
        x.undo();
        s.due("an empty one, too", x.count(3), 0);
    }

    private static void fifthState() {
        Sentence s = new Sentence(SECTION, "and if there are 5 states then, the oldest one is dropped.");
        QuantileDigests x = new QuantileDigests();
        for (int value = 1; value <= 5; value++) {
            x.set(0, value);
        }
        s.due("four are left", x.count(2), 4);
        for (int value = 4; value >= 1; value--) {
            x.undo();
            s.due("the state ahead of setting " + (value + 1), x.count(20), value);
        }
        s.notPossible("the one with 10 is dropped", x.undo());
        QuantileDigests four = new QuantileDigests();
        for (int value = 1; value <= 4; value++) {
            four.set(0, value);
        }
        for (int times = 0; times < 4; times++) {
            four.undo();
        }
        s.due("of four none is dropped", four.count(20), 10);
    }

    private static void invalidRatherThanNotPossible() {
        Sentence s = new Sentence(SECTION, "INVALID_ARGUMENT is returned rather than NOT_POSSIBLE");
        QuantileDigests x = new QuantileDigests();
        s.invalid("quantile of an empty one", x.quantile(0, 1001));
        s.invalid("truth of an empty one", x.truth(0, -1));
        s.invalid("worst of an empty one", x.worst(0, 2));
        s.invalid("rank in an empty one", x.rank(0, 10000));
        s.invalid("width in an empty one", x.width(0, 1001));
        // Beyond that order: of errors that are alike, and of an argument beside a state.
        Made.fillTo(x, 0, 200);
        s.invalid("add to a full one", x.add(0, 10000, 1));
        s.invalid("add to a full one, times", x.add(0, 1, 21));
        s.invalid("join of a full one with itself", x.join(0, 0));
        s.invalid("a heap that is not there, of no kind", x.heapOf(0, 200, 7));
        s.invalid("a heap that is not there, of no digest", x.heapOf(3, 200, 0));
        s.invalid("a buffer's value that is not there", x.bufferOf(3, 20));
        s.invalid("the least value of no digest", x.digestOf(3, 3));
        s.invalid("a setting for too many heaps", x.settingFor(1, 61));
        s.invalid("no fault's fourth property", x.fault(3));
        Made.write(x, "0".repeat(60));
        s.invalid("a wrong character at a full text", x.type(127));
    }

    private static void notPossibleRatherThanLimit() {
        Sentence s = new Sentence(SECTION, "NOT_POSSIBLE rather than LIMIT_REACHED");
        QuantileDigests x = Made.withText("0:1;");
        Made.fillTo(x, 0, 200);
        s.notPossible("a text that would reach the limit has a fault", x.play());
    }

    private static void limitRatherThanNotFound() {
        Sentence s = new Sentence(SECTION, "and LIMIT_REACHED rather than NOT_FOUND.");
        // No call can return both; those that can return LIMIT_REACHED do so whatever there is not.
        QuantileDigests x = new QuantileDigests();
        Made.fillTo(x, 0, 200);
        x.pack(0);
        s.limit("add to a full one without a buffer's value", x.add(0, 1, 1));
        x.add(1, 1, 1);
        s.limit("join into one without a heap", x.join(0, 1));
    }

    private static void noDigest() {
        Sentence s = new Sentence(SECTION, "If there is no digest with a certain number, this is INVALID_ARGUMENT.");
        QuantileDigests x = Made.holding(1, 2, 3);
        for (int digest : new int[] {-1, 3, Integer.MIN_VALUE, Integer.MAX_VALUE}) {
            s.invalid("add " + digest, x.add(digest, 1, 1));
            s.invalid("pack " + digest, x.pack(digest));
            s.invalid("join " + digest, x.join(digest, 0));
            s.invalid("join into " + digest, x.join(0, digest));
            s.invalid("join with itself " + digest, x.join(digest, digest));
            s.invalid("clear " + digest, x.clear(digest));
            s.invalid("heapOf " + digest, x.heapOf(digest, 0, 0));
            s.invalid("bufferOf " + digest, x.bufferOf(digest, 0));
            s.invalid("digestOf " + digest, x.digestOf(digest, 0));
            s.invalid("quantile " + digest, x.quantile(digest, 0));
            s.invalid("truth " + digest, x.truth(digest, 0));
            s.invalid("worst " + digest, x.worst(digest, 0));
            s.invalid("rank " + digest, x.rank(digest, 0));
            s.invalid("width " + digest, x.width(digest, 0));
            s.invalid("settingFor " + digest, x.settingFor(digest, 1));
        }
    }

    private static void constantOfInvalid() {
        Sentence s = new Sentence(SECTION,
            "The constants: `INVALID_ARGUMENT = -1000001`: An argument is out of its range, or there is no such digest.");
        QuantileDigests x = new QuantileDigests();
        s.due("out of range", x.add(0, 10000, 1), -1000001);
        s.due("no such digest", x.add(3, 1, 1), -1000001);
        s.due("the constant", QuantileDigests.INVALID_ARGUMENT, -1000001);
    }

    private static void constantOfNotPossible() {
        Sentence s = new Sentence(SECTION, "`NOT_POSSIBLE = -1000002`: The call is not possible in the present state.");
        QuantileDigests x = new QuantileDigests();
        s.due("undo at first", x.undo(), -1000002);
        x.pack(0);
        s.due("undo then", x.undo(), 0);
        s.due("the constant", QuantileDigests.NOT_POSSIBLE, -1000002);
    }

    private static void constantOfLimit() {
        Sentence s = new Sentence(SECTION, "`LIMIT_REACHED = -1000003`: A fixed limit has been reached.");
        QuantileDigests x = new QuantileDigests();
        Made.fillTo(x, 0, 200);
        s.due("the weight's", x.add(0, 1, 1), -1000003);
        Made.write(x, "0".repeat(60));
        s.due("the text's", x.type('0'), -1000003);
        s.due("the constant", QuantileDigests.LIMIT_REACHED, -1000003);
    }

    private static void constantOfNotFound() {
        Sentence s = new Sentence(SECTION, "`NOT_FOUND = -1000004`: There is no such value.");
        QuantileDigests x = Made.holding(1);
        s.due("no second one", x.bufferOf(0, 1), -1000004);
        s.due("the first one", x.bufferOf(0, 0), 1);
        s.due("the constant", QuantileDigests.NOT_FOUND, -1000004);
    }
}
