/** 'Packing' of the document's terms. */
final class PackingSentences {
    private PackingSentences() {
    }

    static void test() {
        fullBuffer();
        eachValueOfTheBuffer();
        likeOnesStay();
        firstIsOpen();
        atMost();
        atMostFarOut();
        nextIsOpen();
        emptyBuffer();
        sums();
        ends();
    }

    private static QuantileDigests oneToBy(int last, int setting) {
        QuantileDigests x = new QuantileDigests();
        x.set(1, 20);
        x.set(0, setting);
        for (int value = 1; value <= last; value++) {
            x.add(0, value, 1);
        }
        return x;
    }

    private static void dueWeights(Sentence s, QuantileDigests x, int... weights) {
        for (int heap = 0; heap < weights.length; heap++) {
            s.due("weight of heap " + heap, x.heapOf(0, heap, 0), weights[heap]);
        }
        s.due("how many heaps", x.digestOf(0, 1), weights.length);
    }

    private static void fullBuffer() {
        Sentence s = new Sentence("Packing", "When a value comes into a buffer that is full, the digest is packed first.");
        QuantileDigests x = Made.holding(1, 2, 3, 4, 5);
        s.due("five fill it: not packed yet", x.digestOf(0, 8), 0);
        x.set(0, 2);
        x.add(0, 6, 1);
        s.due("the sixth packs it", x.digestOf(0, 8), 1);
        s.due("and is in the buffer", x.bufferOf(0, 0), 6);
        // With N = 5: 20 at most 16 no, 20 at most 24 yes, 30 at most 25 no, 20 at most 16 no.
        // If the sixth counted, N = 6 would put 4 and 5 together.
        dueWeights(s, x, 1, 2, 1, 1);
    }

    private static void eachValueOfTheBuffer() {
        Sentence s = new Sentence("Packing", "each value of the buffer, in their order, becomes a heap of its own with the "
            + "weight 1, behind those that are there, and all heaps are put in order");
        QuantileDigests x = oneToBy(20, 60);
        s.due("20 values are 20 heaps", x.pack(0), 20);
        for (int heap = 0; heap < 20; heap++) {
            s.due("weight of heap " + heap, x.heapOf(0, heap, 0), 1);
        }
        x = new QuantileDigests();
        s.due("no value is no heap", x.pack(0), 0);
        x.set(0, 60);
        x.add(0, 4, 3);
        s.due("like values are heaps of their own", x.pack(0), 3);
        x.add(0, 0, 1);
        x.pack(0);
        s.due("a later one comes ahead by its middle", x.heapOf(0, 0, 1), 0);
    }

    private static void likeOnesStay() {
        Sentence s = new Sentence("Packing", "(of like middles the one ahead stays ahead)");
        // 7 as a heap of 6 and 8, with 7 ahead of it by joining, and with 7 behind it from the buffer.
        QuantileDigests x = Made.holding(6, 8);
        Made.packToOne(x, 0);
        x.add(1, 7, 1);
        x.join(0, 1);
        Made.put(x, 1, 7, 0);
        s.due("four heaps", x.pack(1), 4);
        s.due("0 is first", x.heapOf(1, 0, 1), 0);
        s.due("the 7 of the latter", x.heapOf(1, 1, 0), 1);
        s.due("the heap of 6 and 8", x.heapOf(1, 2, 0), 2);
        s.due("the 7 of the buffer", x.heapOf(1, 3, 0), 1);
    }

    private static void firstIsOpen() {
        Sentence s = new Sentence("Packing", "Then heaps are gone through in order: the first one is the open one;");
        // 1 * 2 * 2 at most 2 * 2: nothing is ahead of the first one.
        QuantileDigests x = oneToBy(2, 1);
        x.pack(0);
        dueWeights(s, x, 2);
        x = oneToBy(1, 1);
        x.pack(0);
        dueWeights(s, x, 1);
        x = oneToBy(0, 1);
        x.pack(0);
        dueWeights(s, x);
    }

    private static void atMost() {
        Sentence s = new Sentence("Packing", "each next one is put together with the open one if (the weight w of both "
            + "together) times N times setting 0 is at most (2 * W + w) times (2 * N - 2 * W - w), W being the weight of "
            + "all heaps ahead of the open one;");
        // N = 4, setting 2: 16 against 12, 16 against 16 (just at most), 24 against 15.
        QuantileDigests x = oneToBy(4, 2);
        x.pack(0);
        dueWeights(s, x, 1, 2, 1);
        // N = 6, setting 2: 24 against 20, 24 against 32, 36 against 35 (just above), 24 against 32, 36 against 27.
        x = oneToBy(6, 2);
        x.pack(0);
        dueWeights(s, x, 1, 2, 2, 1);
        // N = 4, setting 1: 8 against 12, 12 against 15, 16 against 16 (just at most).
        x = oneToBy(4, 1);
        x.pack(0);
        dueWeights(s, x, 4);
        // N = 4, setting 3: 24 against 12, 16, 12.
        x = oneToBy(4, 3);
        x.pack(0);
        dueWeights(s, x, 1, 1, 1, 1);
    }

    private static void atMostFarOut() {
        Sentence s = new Sentence("Packing", "times N times setting 0 is at most (2 * W + w) times (2 * N - 2 * W - w)");
        // 100 ones and 100 ones by 60 are all of the weight 1; of both together 2 * 200 * 60 = 24000 is above
        // 72 * 328 = 23616 at W = 35, and at most 74 * 326 = 24124 at W = 36; 36000 is above 75 * 325.
        QuantileDigests x = new QuantileDigests();
        x.set(0, 60);
        Made.fillTo(x, 0, 100);
        Made.fillTo(x, 1, 100);
        x.join(0, 1);
        s.due("the last heap of the weight 1", x.heapOf(1, 35, 0), 1);
        s.due("the first one of the weight 2", x.heapOf(1, 36, 0), 2);
        // A third one doesn't fit at W = 66 (36000 is above 135 * 265 = 35775), but at W = 68 (139 * 261 = 36279).
        s.due("the last pair ahead", x.heapOf(1, 51, 0), 2);
        s.due("the first one of the weight 3", x.heapOf(1, 52, 0), 3);
        s.due("its weight ahead", x.heapOf(1, 52, 5), 68);
        // 36 ones, 16 pairs, 21 of three to the weight 131, 16 pairs to 163, 37 ones.
        s.due("the last one of the weight 3", x.heapOf(1, 72, 0), 3);
        s.due("a pair behind", x.heapOf(1, 73, 0), 2);
        s.due("the last pair", x.heapOf(1, 88, 0), 2);
        s.due("a one behind", x.heapOf(1, 89, 0), 1);
        s.due("how many heaps", x.digestOf(1, 1), 126);
    }

    private static void nextIsOpen() {
        Sentence s = new Sentence("Packing", "otherwise the open one is done, and the next one is the open one.");
        // As in atMost: when 1 and 2, 3 are done, 4 is open with W = 3, and takes 5; 6 is open at last.
        QuantileDigests x = oneToBy(6, 2);
        x.pack(0);
        s.due("ahead of the third heap", x.heapOf(0, 2, 5), 3);
        s.due("4 and 5", x.heapOf(0, 2, 1), 9);
        s.due("ahead of the last heap", x.heapOf(0, 3, 5), 5);
        s.due("6 alone", x.heapOf(0, 3, 1), 6);
        s.notFound("nothing behind", x.heapOf(0, 4, 1));
    }

    private static void emptyBuffer() {
        Sentence s = new Sentence("Packing", "The buffer is empty then.");
        QuantileDigests x = oneToBy(20, 10);
        x.pack(0);
        s.due("none of 20", x.digestOf(0, 2), 0);
        s.notFound("no first one", x.bufferOf(0, 0));
        s.due("nothing is lost", x.digestOf(0, 0), 20);
        x.pack(0);
        s.due("nothing comes twice", x.digestOf(0, 0), 20);
    }

    private static void sums() {
        Sentence s = new Sentence("Packing", "To put heaps together means that weights and sums are added;");
        QuantileDigests x = new QuantileDigests();
        Made.fill(x, 0, 9999, 100);
        Made.fill(x, 1, 0, 100);
        x.set(0, 1);
        x.join(0, 1);
        s.due("weight", x.heapOf(1, 0, 0), 200);
        s.due("sum", x.heapOf(1, 0, 1), 999900);
    }

    private static void ends() {
        Sentence s = new Sentence("Packing", "the least and the greatest values are those of both.");
        // The heap of 0 and 100 has the middle 50: 40 is the one ahead of it, 60 the one behind it.
        for (int other : new int[] {40, 60}) {
            QuantileDigests x = Made.holding(0, 100);
            Made.packToOne(x, 0);
            x.add(0, other, 1);
            x.set(0, 1);
            s.due("one heap with " + other, x.pack(0), 1);
            s.due("least with " + other, x.heapOf(0, 0, 2), 0);
            s.due("greatest with " + other, x.heapOf(0, 0, 3), 100);
        }
    }
}
