/** Promises 7 to 9: what there is. */
final class Promises7To9 {
    private static final String DIGEST = "`digest`: 0 to 2";
    private static final String OUT_OF_RANGE = "INVALID_ARGUMENT if an argument is out of range;";
    private static final String NOT_SO_MANY = "NOT_FOUND if there are not so many.";

    private Promises7To9() {
    }

    static void test() {
        heapOfDigest();
        heapOfHeap();
        heapOfWeight();
        heapOfSum();
        heapOfLeast();
        heapOfGreatest();
        heapOfMiddle();
        heapOfAhead();
        heapOfBits();
        heapOfInvalid();
        heapOfNotFound();
        bufferOfDigest();
        bufferOfIndex();
        bufferOfReturns();
        bufferOfInvalid();
        bufferOfNotFound();
        digestOfDigest();
        digestOfWeight();
        digestOfHeaps();
        digestOfBuffer();
        digestOfLeast();
        digestOfGreatest();
        digestOfSum();
        digestOfHeapsThen();
        digestOfGreatestWeight();
        digestOfPacks();
        digestOfPacksByJoin();
        digestOfInvalid();
        digestOfNotFound();
    }

    /** One heap in digest 0 of these values. */
    private static QuantileDigests heapOf(int... values) {
        QuantileDigests x = Made.holding(values);
        Made.packToOne(x, 0);
        return x;
    }

    private static void heapOfDigest() {
        Sentence s = new Sentence("Promise 7", DIGEST);
        QuantileDigests x = heapOf(5);
        s.range("heapOf", 0, 2, digest -> x.heapOf(digest, 0, 0));
    }

    private static void heapOfHeap() {
        Sentence s = new Sentence("Promise 7", "`heap`: 0 for the first one, and so on");
        QuantileDigests x = Made.holding(8, 9);
        x.set(0, 60);
        x.pack(0);
        s.due("heap 0", x.heapOf(0, 0, 1), 8);
        s.due("heap 1", x.heapOf(0, 1, 1), 9);
        s.invalid("heap -1", x.heapOf(0, -1, 1));
    }

    private static void heapOfWeight() {
        Sentence s = new Sentence("Promise 7", "0: its weight;");
        s.due("of one value", heapOf(5).heapOf(0, 0, 0), 1);
        s.due("of three", heapOf(5, 5, 5).heapOf(0, 0, 0), 3);
    }

    private static void heapOfSum() {
        Sentence s = new Sentence("Promise 7", "1: its sum;");
        s.due("0", heapOf(0).heapOf(0, 0, 1), 0);
        s.due("9999 and 1", heapOf(9999, 1).heapOf(0, 0, 1), 10000);
    }

    private static void heapOfLeast() {
        Sentence s = new Sentence("Promise 7", "2: its least value;");
        s.due("of one value", heapOf(5).heapOf(0, 0, 2), 5);
        s.due("of the range's ends", heapOf(9999, 0).heapOf(0, 0, 2), 0);
    }

    private static void heapOfGreatest() {
        Sentence s = new Sentence("Promise 7", "3: its greatest value;");
        s.due("of one value", heapOf(0).heapOf(0, 0, 3), 0);
        s.due("of the range's ends", heapOf(9999, 0).heapOf(0, 0, 3), 9999);
    }

    private static void heapOfMiddle() {
        Sentence s = new Sentence("Promise 7", "4: its middle, rounded down;");
        s.due("9999 / 1", heapOf(9999).heapOf(0, 0, 4), 9999);
        s.due("1 / 2", heapOf(0, 1).heapOf(0, 0, 4), 0);
        s.due("2 / 3", heapOf(0, 1, 1).heapOf(0, 0, 4), 0);
        s.due("3 / 3", heapOf(0, 1, 2).heapOf(0, 0, 4), 1);
        s.due("19997 / 2", heapOf(9998, 9999).heapOf(0, 0, 4), 9998);
        s.due("19998 / 2", heapOf(9999, 9999).heapOf(0, 0, 4), 9999);
    }

    private static void heapOfAhead() {
        Sentence s = new Sentence("Promise 7", "5: the weight of all heaps ahead of it;");
        QuantileDigests x = Made.holding(1, 2, 3, 4);
        x.set(0, 2);
        x.pack(0);
        s.due("none is ahead of the first one", x.heapOf(0, 0, 5), 0);
        s.due("its own weight is not counted", x.heapOf(0, 1, 5), 1);
        s.due("weights are counted, not heaps", x.heapOf(0, 2, 5), 3);
    }

    private static void heapOfBits() {
        Sentence s = new Sentence("Promise 7",
            "6: the bits of its middle, as a float: the sum, as a float, divided by the weight, as a float");
        s.due("0", heapOf(0).heapOf(0, 0, 6), 0);
        s.due("1: exponent 127", heapOf(1).heapOf(0, 0, 6), 0x3F800000);
        s.due("2: exponent 128", heapOf(2).heapOf(0, 0, 6), 0x40000000);
        s.due("1 / 2: exponent 126", heapOf(0, 1).heapOf(0, 0, 6), 0x3F000000);
        s.due("1 / 3, rounded up", heapOf(0, 0, 1).heapOf(0, 0, 6), 0x3EAAAAAB);
        s.due("2 / 3, rounded up", heapOf(0, 1, 1).heapOf(0, 0, 6), 0x3F2AAAAB);
        s.due("4 / 3, rounded up", heapOf(0, 2, 2).heapOf(0, 0, 6), 0x3FAAAAAB);
        s.due("5 / 3, rounded down", heapOf(1, 2, 2).heapOf(0, 0, 6), 0x3FD55555);
        s.due("9999: 8192 * (1 + 1807 / 8192)", heapOf(9999).heapOf(0, 0, 6), 0x461C3C00);
        QuantileDigests x = Made.holding(1);
        Made.fill(x, 0, 0, 199);
        Made.packToOne(x, 0);
        s.due("1 / 200, the least above 0", x.heapOf(0, 0, 6), 0x3BA3D70A);
    }

    private static void heapOfInvalid() {
        Sentence s = new Sentence("Promise 7", "INVALID_ARGUMENT if digest or what is out of range or heap is negative;");
        QuantileDigests x = heapOf(5);
        s.range("heapOf digest", 0, 2, digest -> x.heapOf(digest, 1, 6));
        s.range("heapOf what", 0, 6, what -> x.heapOf(0, 0, what));
        s.invalid("heap -1", x.heapOf(0, -1, 0));
        s.invalid("the least heap", x.heapOf(0, Integer.MIN_VALUE, 0));
        s.invalid("no kind of a heap that is not there", x.heapOf(0, 1, 7));
    }

    private static void heapOfNotFound() {
        Sentence s = new Sentence("Promise 7", NOT_SO_MANY);
        QuantileDigests x = heapOf(5, 6);
        for (int what = 0; what <= 6; what++) {
            s.notFound("the second one of one, " + what, x.heapOf(0, 1, what));
            s.notFound("the greatest heap, " + what, x.heapOf(0, Integer.MAX_VALUE, what));
            s.notFound("the first one of none, " + what, x.heapOf(1, 0, what));
        }
        x.add(1, 5, 1);
        s.notFound("a value in the buffer is none", x.heapOf(1, 0, 0));
    }

    private static void bufferOfDigest() {
        Sentence s = new Sentence("Promise 8", DIGEST);
        QuantileDigests x = Made.holding(5);
        s.range("bufferOf", 0, 2, digest -> x.bufferOf(digest, 0));
    }

    private static void bufferOfIndex() {
        Sentence s = new Sentence("Promise 8", "`index`: 0 for the earliest one, and so on");
        QuantileDigests x = Made.holding(9, 3, 6);
        s.due("earliest", x.bufferOf(0, 0), 9);
        s.due("next", x.bufferOf(0, 1), 3);
        s.due("latest", x.bufferOf(0, 2), 6);
    }

    private static void bufferOfReturns() {
        Sentence s = new Sentence("Promise 8", "Returns the value;");
        QuantileDigests x = Made.holding(0, 9999);
        s.due("the least one", x.bufferOf(0, 0), 0);
        s.due("the greatest one", x.bufferOf(0, 1), 9999);
    }

    private static void bufferOfInvalid() {
        Sentence s = new Sentence("Promise 8", "INVALID_ARGUMENT if digest is out of range or index is negative;");
        QuantileDigests x = Made.holding(5);
        s.invalid("index -1", x.bufferOf(0, -1));
        s.invalid("the least index", x.bufferOf(0, Integer.MIN_VALUE));
        s.invalid("index -1 of an empty one", x.bufferOf(1, -1));
        s.invalid("digest 3", x.bufferOf(3, 0));
        s.invalid("digest -1", x.bufferOf(-1, 0));
    }

    private static void bufferOfNotFound() {
        Sentence s = new Sentence("Promise 8", NOT_SO_MANY);
        QuantileDigests x = Made.holding(1, 2, 3, 4, 5);
        s.due("the last one of five", x.bufferOf(0, 4), 5);
        s.notFound("the sixth one", x.bufferOf(0, 5));
        s.notFound("the greatest index", x.bufferOf(0, Integer.MAX_VALUE));
        x.add(0, 6, 1);
        s.notFound("those that were packed are there no longer", x.bufferOf(0, 1));
        x.pack(0);
        s.notFound("none after packing", x.bufferOf(0, 0));
    }

    private static void digestOfDigest() {
        Sentence s = new Sentence("Promise 9", DIGEST);
        s.range("digestOf", 0, 2, digest -> new QuantileDigests().digestOf(digest, 0));
    }

    private static void digestOfWeight() {
        Sentence s = new Sentence("Promise 9", "0: its weight;");
        QuantileDigests x = new QuantileDigests();
        s.due("empty", x.digestOf(0, 0), 0);
        Made.fillTo(x, 0, 200);
        s.due("full", x.digestOf(0, 0), 200);
    }

    private static void digestOfHeaps() {
        Sentence s = new Sentence("Promise 9", "1: how many heaps;");
        QuantileDigests x = Made.holding(1, 2, 3, 4, 5);
        s.due("values in the buffer are none", x.digestOf(0, 1), 0);
        x.add(0, 6, 1);
        s.due("five", x.digestOf(0, 1), 5);
    }

    private static void digestOfBuffer() {
        Sentence s = new Sentence("Promise 9", "2: how many values in the buffer;");
        QuantileDigests x = new QuantileDigests();
        s.due("empty", x.digestOf(0, 2), 0);
        x.add(0, 1, 5);
        s.due("full", x.digestOf(0, 2), 5);
        x.add(0, 1, 1);
        s.due("one behind the packing", x.digestOf(0, 2), 1);
    }

    private static void digestOfLeast() {
        Sentence s = new Sentence("Promise 9", "3: the least value;");
        QuantileDigests x = heapOf(5, 7);
        s.due("in a heap alone", x.digestOf(0, 3), 5);
        x.add(0, 6, 1);
        s.due("in a heap", x.digestOf(0, 3), 5);
        x.add(0, 4, 1);
        s.due("in the buffer", x.digestOf(0, 3), 4);
        s.due("in the buffer alone", Made.holding(9, 0).digestOf(0, 3), 0);
        QuantileDigests second = heapOf(0, 100);
        second.add(0, 40, 1);
        second.pack(0);
        s.due("in the second heap", second.digestOf(0, 3), 0);
    }

    private static void digestOfGreatest() {
        Sentence s = new Sentence("Promise 9", "4: the greatest value;");
        QuantileDigests x = heapOf(5, 7);
        s.due("in a heap alone", x.digestOf(0, 4), 7);
        x.add(0, 6, 1);
        s.due("in a heap", x.digestOf(0, 4), 7);
        x.add(0, 8, 1);
        s.due("in the buffer", x.digestOf(0, 4), 8);
        s.due("0 alone", Made.holding(0).digestOf(0, 4), 0);
        QuantileDigests first = heapOf(0, 100);
        first.add(0, 60, 1);
        first.pack(0);
        s.due("in the first heap", first.digestOf(0, 4), 100);
    }

    private static void digestOfSum() {
        Sentence s = new Sentence("Promise 9", "5: the sum of all values;");
        QuantileDigests x = new QuantileDigests();
        s.due("empty", x.digestOf(0, 5), 0);
        Made.fill(x, 0, 9999, 200);
        s.due("the greatest sum", x.digestOf(0, 5), 1999800);
        QuantileDigests both = heapOf(5, 7);
        both.add(0, 6, 1);
        s.due("of heaps and buffer", both.digestOf(0, 5), 18);
    }

    private static void digestOfHeapsThen() {
        Sentence s = new Sentence("Promise 9", "6: how many heaps it would have if it was packed;");
        QuantileDigests x = new QuantileDigests();
        s.due("empty", x.digestOf(0, 6), 0);
        Made.put(x, 0, 1, 2, 3, 4);
        x.set(0, 2);
        s.due("of the buffer", x.digestOf(0, 6), 3);
        s.due("it is not packed", x.digestOf(0, 2), 4);
        s.due("no pack is counted", x.digestOf(0, 8), 0);
        x.set(0, 60);
        x.pack(0);
        x.set(0, 2);
        s.due("of heaps that are there", x.digestOf(0, 6), 3);
        s.due("they stay", x.digestOf(0, 1), 4);
    }

    private static void digestOfGreatestWeight() {
        Sentence s = new Sentence("Promise 9", "7: the greatest weight of a heap;");
        QuantileDigests x = Made.holding(1, 2, 3, 4);
        x.set(0, 2);
        x.pack(0);
        s.due("of the second one of three", x.digestOf(0, 7), 2);
        x.add(1, 1, 1);
        x.pack(1);
        s.due("the least one", x.digestOf(1, 7), 1);
        QuantileDigests full = new QuantileDigests();
        Made.fillTo(full, 0, 200);
        Made.packToOne(full, 0);
        s.due("the greatest one", full.digestOf(0, 7), 200);
    }

    private static void digestOfPacks() {
        Sentence s = new Sentence("Promise 9", "8: how often it was packed so far (an empty one, too;");
        QuantileDigests x = new QuantileDigests();
        s.due("never", x.digestOf(0, 8), 0);
        x.pack(0);
        s.due("an empty one", x.digestOf(0, 8), 1);
        x.add(0, 1, 5);
        s.due("the buffer is just full", x.digestOf(0, 8), 1);
        x.add(0, 1, 1);
        s.due("by a value", x.digestOf(0, 8), 2);
        s.due("another one was not", x.digestOf(1, 8), 0);
        x.quantile(0, 500);
        x.settingFor(0, 1);
        s.due("questions do not count", x.digestOf(0, 8), 2);
    }

    private static void digestOfPacksByJoin() {
        Sentence s = new Sentence("Promise 9", "by a join the former once, the latter twice)");
        QuantileDigests x = Made.holding(1);
        x.join(0, 2);
        s.due("former", x.digestOf(0, 8), 1);
        s.due("latter", x.digestOf(2, 8), 2);
        s.due("the third one", x.digestOf(1, 8), 0);
    }

    private static void digestOfInvalid() {
        Sentence s = new Sentence("Promise 9", OUT_OF_RANGE);
        QuantileDigests x = new QuantileDigests();
        s.range("digestOf what", 0, 8, what -> x.digestOf(0, what));
        s.invalid("the least value of digest 3", x.digestOf(3, 3));
        s.invalid("both", x.digestOf(-1, 9));
    }

    private static void digestOfNotFound() {
        Sentence s = new Sentence("Promise 9", "NOT_FOUND for 3 and 4 if it is empty, for 7 if there is no heap.");
        QuantileDigests x = new QuantileDigests();
        s.notFound("least of an empty one", x.digestOf(0, 3));
        s.notFound("greatest of an empty one", x.digestOf(0, 4));
        s.notFound("heaviest of an empty one", x.digestOf(0, 7));
        x.add(0, 0, 5);
        s.due("least of a buffer", x.digestOf(0, 3), 0);
        s.due("greatest of a buffer", x.digestOf(0, 4), 0);
        s.notFound("no heap, though there is a buffer", x.digestOf(0, 7));
        x.pack(0);
        s.due("a heap", x.digestOf(0, 7), 1);
        x.clear(0);
        s.notFound("least of a cleared one", x.digestOf(0, 3));
        s.notFound("greatest of a cleared one", x.digestOf(0, 4));
        s.notFound("heaviest of a cleared one", x.digestOf(0, 7));
    }
}
