/** Promises 1 to 6: a new object, and what changes digests. */
final class Promises1To6 {
    private Promises1To6() {
    }

    static void test() {
        newObject();
        add();
        addDigest();
        addValue();
        addTimes();
        addReturns();
        addInvalid();
        addLimit();
        pack();
        packDigest();
        packReturns();
        packInvalid();
        join();
        joinHeaps();
        joinFormer();
        joinDigest();
        joinInto();
        joinReturns();
        joinInvalid();
        joinLimit();
        clear();
        clearPacks();
        clearDigest();
        clearReturns();
        clearInvalid();
        set();
        setFull();
        setWhat();
        setValue();
        setReturns();
        setInvalid();
    }

    private static void newObject() {
        Sentence s = new Sentence("Promise 1", "`QuantileDigests()`: Creates empty digests.");
        QuantileDigests x = new QuantileDigests();
        for (int digest = 0; digest < 3; digest++) {
            s.due("weight of " + digest, x.digestOf(digest, 0), 0);
            s.due("sum of " + digest, x.digestOf(digest, 5), 0);
            s.due("packs of " + digest, x.digestOf(digest, 8), 0);
            s.notFound("a heap of " + digest, x.heapOf(digest, 0, 0));
            s.notFound("a value of " + digest, x.bufferOf(digest, 0));
            s.notPossible("a true quantile of " + digest, x.truth(digest, 0));
        }
        x.add(0, 1, 20);
        s.due("another object is empty, too", new QuantileDigests().count(0), 0);
    }

    private static void add() {
        Sentence s = new Sentence("Promise 2", "Lets a value come into a digest, some times one behind another.");
        QuantileDigests x = Made.holding(1);
        x.add(0, 2, 4);
        s.due("the buffer is just full: not packed", x.digestOf(0, 8), 0);
        s.due("behind the earlier one", x.bufferOf(0, 1), 2);
        s.due("the last one of them", x.bufferOf(0, 4), 2);
        x.add(0, 3, 20);
        // 25 values: packed ahead of the 6th, 11th, 16th and 21st.
        s.due("packed as often as it was full", x.digestOf(0, 8), 4);
        s.due("those behind the last packing", x.digestOf(0, 2), 5);
    }

    private static void addDigest() {
        Sentence s = new Sentence("Promise 2", "`digest`: 0 to 2");
        s.range("add to", 0, 2, digest -> new QuantileDigests().add(digest, 1, 1));
    }

    private static void addValue() {
        Sentence s = new Sentence("Promise 2", "`value`: 0 to 9999");
        s.range("add the value", 0, 9999, value -> new QuantileDigests().add(0, value, 1));
        QuantileDigests x = Made.holding(9999, 0);
        s.due("the greatest one comes as it is", x.bufferOf(0, 0), 9999);
        s.due("the least one comes as it is", x.bufferOf(0, 1), 0);
    }

    private static void addTimes() {
        Sentence s = new Sentence("Promise 2", "`times`: 1 to 20");
        s.range("add times", 1, 20, times -> new QuantileDigests().add(0, 1, times));
        QuantileDigests x = new QuantileDigests();
        x.set(1, 20);
        x.add(0, 4, 20);
        s.due("20 are in the buffer", x.digestOf(0, 2), 20);
        x.add(1, 4, 1);
        s.due("1 is in the buffer", x.digestOf(1, 2), 1);
    }

    private static void addReturns() {
        Sentence s = new Sentence("Promise 2", "Returns the weight then;");
        QuantileDigests x = new QuantileDigests();
        s.due("the first one", x.add(1, 0, 1), 1);
        s.due("another digest's", x.add(2, 0, 20), 20);
        s.due("the second one", x.add(1, 0, 1), 2);
        s.due("with heaps", x.add(2, 0, 20), 40);
    }

    private static void addInvalid() {
        Sentence s = new Sentence("Promise 2", "INVALID_ARGUMENT if an argument is out of range;");
        QuantileDigests x = Made.holding(1);
        s.invalid("the digest alone", x.add(3, 1, 1));
        s.invalid("the value alone", x.add(0, 10000, 1));
        s.invalid("the times alone", x.add(0, 1, 21));
        s.invalid("all three", x.add(-1, -1, 0));
        s.due("nothing came", x.digestOf(0, 0), 1);
    }

    private static void addLimit() {
        Sentence s = new Sentence("Promise 2", "LIMIT_REACHED if it would be above 200.");
        QuantileDigests x = new QuantileDigests();
        Made.fillTo(x, 0, 180);
        Made.fillTo(x, 1, 181);
        s.due("180 and 20", x.add(0, 1, 20), 200);
        s.limit("181 and 20", x.add(1, 1, 20));
        s.due("not even 19 of them", x.digestOf(1, 0), 181);
        s.due("181 and 19", x.add(1, 1, 19), 200);
        s.limit("200 and 1", x.add(1, 1, 1));
        x.pack(1);
        s.limit("packed, too", x.add(1, 1, 1));
        x.clear(1);
        s.due("cleared it can have them", x.add(1, 1, 20), 20);
    }

    private static void pack() {
        Sentence s = new Sentence("Promise 3", "Packs a digest.");
        QuantileDigests x = new QuantileDigests();
        x.add(0, 3, 5);
        x.add(1, 3, 5);
        x.pack(0);
        s.due("one pack", x.digestOf(0, 8), 1);
        s.due("its buffer is empty", x.digestOf(0, 2), 0);
        s.due("another one stays", x.digestOf(1, 2), 5);
        x.set(0, 1);
        x.pack(0);
        s.due("heaps alone are packed again", x.digestOf(0, 1), 1);
        s.due("two packs", x.digestOf(0, 8), 2);
    }

    private static void packDigest() {
        Sentence s = new Sentence("Promise 3", "`digest`: 0 to 2");
        s.range("pack", 0, 2, digest -> new QuantileDigests().pack(digest));
    }

    private static void packReturns() {
        Sentence s = new Sentence("Promise 3", "Returns how many heaps it has then;");
        QuantileDigests x = new QuantileDigests();
        s.due("empty", x.pack(0), 0);
        x.add(0, 3, 1);
        s.due("one value", x.pack(0), 1);
        s.due("one heap", x.pack(0), 1);
        x.set(1, 20);
        x.set(0, 60);
        x.add(1, 3, 20);
        s.due("20 values", x.pack(1), 20);
        x.set(0, 1);
        s.due("all in one", x.pack(1), 1);
    }

    private static void packInvalid() {
        Sentence s = new Sentence("Promise 3", "INVALID_ARGUMENT.");
        QuantileDigests x = Made.holding(1);
        s.invalid("pack(3)", x.pack(3));
        s.invalid("pack(-1)", x.pack(-1));
        s.due("nothing is packed", x.digestOf(0, 8), 0);
    }

    private static void join() {
        Sentence s = new Sentence("Promise 4", "both are packed, then all heaps of the former come behind those of the "
            + "latter, and that is packed again;");
        QuantileDigests x = Made.holding(1, 3, 5, 7);
        Made.put(x, 1, 2, 4, 6, 8);
        x.set(0, 2);
        x.join(0, 1);
        // 1 | 3, 5 | 7 and 2 | 4, 6 | 8, then, N = 8: 32 against 28, 48 against 55, 80 against 63, 48 against 55,
        // 64 against 48. All values at once would be 1 | 2, 3, 4 | 5, 6, 7 | 8.
        s.due("heaps", x.digestOf(1, 1), 4);
        s.due("1", x.heapOf(1, 0, 1), 1);
        s.due("2, 3, 5", x.heapOf(1, 1, 1), 10);
        s.due("4, 6, 7", x.heapOf(1, 2, 1), 17);
        s.due("8", x.heapOf(1, 3, 1), 8);
        s.due("no buffer", x.digestOf(1, 2), 0);
        QuantileDigests like = Made.holding(4, 6);
        Made.packToOne(like, 0);
        like.add(1, 5, 1);
        like.join(0, 1);
        s.due("of like middles the latter's is ahead", like.heapOf(1, 0, 0), 1);
        QuantileDigests empty = new QuantileDigests();
        empty.join(0, 1);
        s.due("empty ones, the former is packed", empty.digestOf(0, 8), 1);
        s.due("empty ones, the latter is packed twice", empty.digestOf(1, 8), 2);
    }

    private static void joinHeaps() {
        Sentence s = new Sentence("Promise 4", "Joins a digest into another one");
        // The heap of 20 and 40 comes ahead of the heap of 10 and 90, and both keep their ends.
        QuantileDigests x = Made.holding(20, 40);
        Made.put(x, 1, 10, 90);
        x.set(0, 1);
        x.pack(0);
        x.pack(1);
        x.set(0, 60);
        x.join(0, 1);
        s.due("least of the former's heap", x.heapOf(1, 0, 2), 20);
        s.due("greatest of the former's heap", x.heapOf(1, 0, 3), 40);
        s.due("least of the latter's heap", x.heapOf(1, 1, 2), 10);
        s.due("greatest of the latter's heap", x.heapOf(1, 1, 3), 90);
        x.join(1, 0);
        s.due("least value then", x.digestOf(0, 3), 10);
        s.due("greatest value then", x.digestOf(0, 4), 90);
        s.due("least quantile then", x.quantile(0, 0), 10);
        s.due("greatest quantile then", x.quantile(0, 1000), 90);
    }

    private static void joinFormer() {
        Sentence s = new Sentence("Promise 4", "the former stays (packed).");
        QuantileDigests x = Made.holding(1, 3, 5, 7);
        x.set(0, 2);
        x.join(0, 2);
        s.due("its weight stays", x.digestOf(0, 0), 4);
        s.due("its heaps", x.digestOf(0, 1), 3);
        s.due("its buffer is empty", x.digestOf(0, 2), 0);
        s.due("its values stay", x.truth(0, 1000), 7);
        s.due("it can be joined again", x.join(0, 2), 8);
        x.add(2, 9, 1);
        s.due("it is not the latter", x.digestOf(0, 4), 7);
    }

    private static void joinDigest() {
        Sentence s = new Sentence("Promise 4", "`digest`: 0 to 2");
        s.range("join", 0, 2, digest -> new QuantileDigests().join(digest, 1));
    }

    private static void joinInto() {
        Sentence s = new Sentence("Promise 4", "`into`: 0 to 2, another one");
        s.range("join into", 0, 2, into -> new QuantileDigests().join(1, into));
        for (int digest = 0; digest <= 2; digest++) {
            s.invalid("join with itself " + digest, new QuantileDigests().join(digest, digest));
        }
    }

    private static void joinReturns() {
        Sentence s = new Sentence("Promise 4", "Returns the weight of the latter then;");
        QuantileDigests x = Made.holding(1, 2, 3);
        s.due("none and none", x.join(1, 2), 0);
        s.due("3 and none", x.join(0, 1), 3);
        s.due("none and 3", x.join(2, 1), 3);
        s.due("3 and 3", x.join(1, 0), 6);
    }

    private static void joinInvalid() {
        Sentence s = new Sentence("Promise 4", "INVALID_ARGUMENT if an argument is out of range, or both are the same;");
        QuantileDigests x = Made.holding(1);
        s.invalid("the former alone", x.join(3, 0));
        s.invalid("the latter alone", x.join(0, 3));
        s.invalid("both", x.join(-1, 3));
        s.invalid("the same that is none", x.join(3, 3));
        s.invalid("the same", x.join(0, 0));
        s.due("no value came twice", x.digestOf(0, 0), 1);
        s.due("nothing is packed", x.digestOf(0, 8), 0);
    }

    private static void joinLimit() {
        Sentence s = new Sentence("Promise 4", "LIMIT_REACHED if it would be above 200.");
        QuantileDigests x = new QuantileDigests();
        Made.fillTo(x, 0, 100);
        Made.fillTo(x, 1, 101);
        s.limit("100 and 101", x.join(0, 1));
        s.limit("101 and 100", x.join(1, 0));
        s.due("the former is not packed", x.digestOf(0, 2), 5);
        Made.fillTo(x, 2, 100);
        s.due("100 and 100", x.join(0, 2), 200);
        s.due("200 and none", clearedJoin(x), 200);
        x.add(0, 1, 1);
        s.limit("1 and 200", x.join(0, 2));
    }

    private static int clearedJoin(QuantileDigests x) {
        x.clear(0);
        return x.join(0, 2);
    }

    private static void clear() {
        Sentence s = new Sentence("Promise 5", "Empties a digest;");
        QuantileDigests x = Made.holding(1, 2, 3, 4, 5, 6);
        x.add(1, 9, 1);
        x.clear(0);
        s.due("weight", x.digestOf(0, 0), 0);
        s.due("heaps", x.digestOf(0, 1), 0);
        s.due("buffer", x.digestOf(0, 2), 0);
        s.due("sum", x.digestOf(0, 5), 0);
        s.notFound("least value", x.digestOf(0, 3));
        s.notFound("first heap", x.heapOf(0, 0, 0));
        s.notFound("first of the buffer", x.bufferOf(0, 0));
        s.notPossible("true quantile", x.truth(0, 0));
        s.notFound("a setting for 1 heap", x.settingFor(0, 1));
        s.due("another one stays", x.digestOf(1, 0), 1);
        x.add(0, 8, 1);
        s.due("later values alone are true ones", x.truth(0, 0), 8);
        x.pack(0);
        s.due("a later heap has the least value of its own", x.heapOf(0, 0, 2), 8);
        s.due("and the greatest value of its own", x.heapOf(0, 0, 3), 8);
        s.due("later values alone have a least one", x.digestOf(0, 3), 8);
        s.due("and a greatest one", x.digestOf(0, 4), 8);
    }

    private static void clearPacks() {
        Sentence s = new Sentence("Promise 5", "how often it was packed so far stays.");
        QuantileDigests x = Made.holding(1, 2, 3, 4, 5, 6);
        x.clear(0);
        s.due("one pack stays", x.digestOf(0, 8), 1);
        x.clear(0);
        s.due("of an empty one, too", x.digestOf(0, 8), 1);
        x.pack(0);
        s.due("it goes on from there", x.digestOf(0, 8), 2);
    }

    private static void clearDigest() {
        Sentence s = new Sentence("Promise 5", "`digest`: 0 to 2");
        s.range("clear", 0, 2, digest -> new QuantileDigests().clear(digest));
    }

    private static void clearReturns() {
        Sentence s = new Sentence("Promise 5", "Returns the weight that it had;");
        QuantileDigests x = Made.holding(1, 2, 3, 4, 5, 6);
        s.due("heaps and buffer", x.clear(0), 6);
        s.due("empty", x.clear(0), 0);
        Made.fillTo(x, 2, 200);
        s.due("full", x.clear(2), 200);
    }

    private static void clearInvalid() {
        Sentence s = new Sentence("Promise 5", "INVALID_ARGUMENT.");
        QuantileDigests x = Made.holding(1);
        s.invalid("clear(3)", x.clear(3));
        s.invalid("clear(-1)", x.clear(-1));
        s.due("nothing is emptied", x.count(0), 1);
    }

    private static void set() {
        Sentence s = new Sentence("Promise 6", "nothing is packed by that");
        QuantileDigests x = new QuantileDigests();
        x.set(1, 20);
        x.add(0, 3, 20);
        x.set(1, 1);
        x.set(0, 1);
        s.due("the buffer stays, though it is above the setting", x.digestOf(0, 2), 20);
        s.due("no pack", x.digestOf(0, 8), 0);
        s.due("the last one is still there", x.bufferOf(0, 19), 3);
    }

    private static void setFull() {
        Sentence s = new Sentence("Promise 6", "(a buffer that has setting 1 values or more is full)");
        for (int setting = 1; setting <= 3; setting++) {
            QuantileDigests x = Made.holding(7, 8);
            x.set(1, setting);
            x.add(0, 9, 1);
            boolean isFull = setting <= 2;
            s.due("packs with two values by " + setting, x.digestOf(0, 8), isFull ? 1 : 0);
            s.due("buffer by " + setting, x.digestOf(0, 2), isFull ? 1 : 3);
        }
    }

    private static void setWhat() {
        Sentence s = new Sentence("Promise 6", "`what`: 0 or 1");
        s.range("set", 0, 1, what -> new QuantileDigests().set(what, 7));
    }

    private static void setValue() {
        Sentence s = new Sentence("Promise 6", "`value`: a value in its range");
        s.range("set(0, ..)", 1, 60, value -> new QuantileDigests().set(0, value));
        s.range("set(1, ..)", 1, 20, value -> new QuantileDigests().set(1, value));
    }

    private static void setReturns() {
        Sentence s = new Sentence("Promise 6", "Returns what it was;");
        QuantileDigests x = new QuantileDigests();
        s.due("setting 0 at first", x.set(0, 60), 10);
        s.due("its greatest", x.set(0, 1), 60);
        s.due("its least", x.set(0, 1), 1);
        s.due("setting 1 at first", x.set(1, 20), 5);
        s.due("its greatest one", x.set(1, 1), 20);
        s.due("its least one", x.set(1, 5), 1);
    }

    private static void setInvalid() {
        Sentence s = new Sentence("Promise 6", "INVALID_ARGUMENT if an argument is out of range.");
        QuantileDigests x = new QuantileDigests();
        s.invalid("21 is in the range of setting 0 alone", x.set(1, 21));
        s.invalid("no setting 20, though count has one", x.set(20, 10));
        s.invalid("no setting 2", x.set(2, 1));
        s.invalid("both wrong", x.set(2, 0));
        s.due("setting 0 stays", x.count(20), 10);
        s.due("setting 1 stays", x.count(21), 5);
    }
}
