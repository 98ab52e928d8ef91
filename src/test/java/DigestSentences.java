/** 'What it is', and 'Digests' of the document's terms. */
final class DigestSentences {
    private DigestSentences() {
    }

    static void test() {
        lastCall();
        digests();
        heaps();
        middles();
        lesserMiddleFirst();
        likeMiddles();
        buffer();
        weight();
        greatestWeight();
        allValues();
    }

    private static void lastCall() {
        Sentence s = new Sentence("What it is", "An object is used for at most 512 calls after it has been made");
        QuantileDigests x = new QuantileDigests();
        for (int round = 0; round < 170; round++) {
            x.add(0, 5, 1);
            x.pack(0);
            x.clear(0);
        }
        s.due("call 511 adds 20", x.add(0, 7, 20), 20);
        s.due("call 512 tells the packs of 170 rounds and three more", x.digestOf(0, 8), 173);
    }

    private static void digests() {
        Sentence s = new Sentence("Digests", "There are 3 digests, numbered from 0, all empty at first.");
        s.range("pack", 0, 2, digest -> new QuantileDigests().pack(digest));
        QuantileDigests x = new QuantileDigests();
        for (int digest = 0; digest < 3; digest++) {
            s.due("weight of " + digest, x.digestOf(digest, 0), 0);
            s.due("heaps of " + digest, x.digestOf(digest, 1), 0);
            s.due("buffer of " + digest, x.digestOf(digest, 2), 0);
        }
        x.add(1, 8, 1);
        s.due("digest 0 is another one", x.digestOf(0, 0), 0);
        s.due("digest 1 alone got it", x.digestOf(1, 0), 1);
        s.due("digest 2 is another one", x.digestOf(2, 0), 0);
    }

    private static void heaps() {
        Sentence s = new Sentence("Digests",
            "A heap has a weight (1 or more), a sum (of its values), and the least and the greatest of its values");
        QuantileDigests x = Made.holding(0);
        x.pack(0);
        dueHeap(s, x, 0, 1, 0, 0, 0);
        x = new QuantileDigests();
        Made.fill(x, 1, 9999, 200);
        Made.packToOne(x, 1);
        dueHeap(s, x, 1, 200, 1999800, 9999, 9999);
        x = Made.holding(3, 9998, 4);
        Made.packToOne(x, 0);
        dueHeap(s, x, 0, 3, 10005, 3, 9998);
    }

    private static void dueHeap(Sentence s, QuantileDigests x, int digest, int weight, int sum, int least, int greatest) {
        s.due("weight", x.heapOf(digest, 0, 0), weight);
        s.due("sum", x.heapOf(digest, 0, 1), sum);
        s.due("least", x.heapOf(digest, 0, 2), least);
        s.due("greatest", x.heapOf(digest, 0, 3), greatest);
    }

    private static void middles() {
        Sentence s = new Sentence("Digests", "its middle is the sum divided by the weight (a fraction)");
        // The heap of one 1 and nineteen 0 has the middle 1/20: above 0, and below the next heap's 1/19.
        QuantileDigests x = Made.holding(1);
        x.add(0, 0, 19);
        Made.packToOne(x, 0);
        x.add(0, 0, 1);
        s.due("two heaps", x.pack(0), 2);
        s.due("0 is ahead of 1/20", x.heapOf(0, 0, 0), 1);
        s.due("1/20 is behind", x.heapOf(0, 1, 0), 20);
        x = Made.holding(1);
        x.add(0, 0, 18);
        x.add(1, 0, 19);
        x.add(1, 1, 1);
        x.set(0, 1);
        x.pack(0);
        x.pack(1);
        x.set(0, 60);
        x.join(1, 0);
        s.due("1/20 is ahead of 1/19, though it came later", x.heapOf(0, 0, 0), 20);
        s.due("1/19 is behind", x.heapOf(0, 1, 0), 19);
    }

    private static void lesserMiddleFirst() {
        Sentence s = new Sentence("Digests", "Heaps are in the order of their middles, the lesser one first");
        QuantileDigests x = Made.holding(9999, 1, 0);
        x.set(0, 60);
        s.due("three heaps", x.pack(0), 3);
        s.due("least", x.heapOf(0, 0, 1), 0);
        s.due("1 is next, by one more", x.heapOf(0, 1, 1), 1);
        s.due("greatest", x.heapOf(0, 2, 1), 9999);
    }

    private static void likeMiddles() {
        Sentence s = new Sentence("Digests", "of like middles the one that was there earlier first");
        // 2/4 and 1/2 are alike, though their sums and weights are not.
        s.due("2/4 was there earlier", firstWeightOfJoined(4, 2), 4);
        s.due("1/2 was there earlier", firstWeightOfJoined(2, 4), 2);
        // Heaps of 4, 6 and of 5: the later value is not put ahead.
        QuantileDigests x = Made.holding(4, 6);
        Made.packToOne(x, 0);
        x.add(0, 5, 1);
        x.pack(0);
        s.due("the heap was there earlier than the value", x.heapOf(0, 0, 0), 2);
    }

    /** Joins a heap of half zeros and half ones behind another one such, and tells what is first then. */
    private static int firstWeightOfJoined(int latter, int former) {
        QuantileDigests x = new QuantileDigests();
        x.add(0, 0, latter / 2);
        x.add(0, 1, latter / 2);
        x.add(1, 0, former / 2);
        x.add(1, 1, former / 2);
        x.set(0, 1);
        x.pack(0);
        x.pack(1);
        x.set(0, 60);
        x.join(1, 0);
        return x.heapOf(0, 0, 0);
    }

    private static void buffer() {
        Sentence s = new Sentence("Digests", "The buffer has values in the order in which they came, setting 1 at most.");
        QuantileDigests x = new QuantileDigests();
        x.set(1, 20);
        for (int value = 20; value >= 1; value--) {
            x.add(0, value, 1);
        }
        s.due("20 at most", x.digestOf(0, 2), 20);
        s.due("earliest", x.bufferOf(0, 0), 20);
        s.due("latest", x.bufferOf(0, 19), 1);
        x.add(0, 7, 1);
        s.due("never 21", x.digestOf(0, 2), 1);
        s.due("the 21st is alone", x.bufferOf(0, 0), 7);
        x = new QuantileDigests();
        x.set(1, 1);
        x.add(0, 3, 20);
        s.due("1 at most", x.digestOf(0, 2), 1);
    }

    private static void weight() {
        Sentence s = new Sentence("Digests",
            "N is the weight of a digest: of all heaps together, and the values in the buffer.");
        QuantileDigests x = new QuantileDigests();
        x.set(0, 60);
        Made.put(x, 0, 1, 2);
        s.due("buffer alone", x.digestOf(0, 0), 2);
        x.pack(0);
        s.due("heaps alone", x.digestOf(0, 0), 2);
        Made.put(x, 0, 3, 4);
        s.due("both", x.digestOf(0, 0), 4);
        // N = 4 puts 2 and 3 together (16 at most 4 * 4); of N = 2 none would be (8 at most 2 * 2, then 4 * 0).
        x.set(0, 2);
        s.due("both count when it is packed", x.pack(0), 3);
        s.due("a heap of two counts twice", x.digestOf(0, 0), 4);
    }

    private static void greatestWeight() {
        Sentence s = new Sentence("Digests", "A digest can have a weight of 200 at most.");
        QuantileDigests x = new QuantileDigests();
        for (int digest = 0; digest < 3; digest++) {
            Made.fillTo(x, digest, 199);
            s.due("200 in " + digest, x.add(digest, 1, 1), 200);
            s.limit("201 in " + digest, x.add(digest, 1, 1));
            s.due("it is 200 then", x.digestOf(digest, 0), 200);
        }
        s.due("each one has 200", x.count(0), 600);
    }

    private static void allValues() {
        Sentence s = new Sentence("Digests",
            "All values that ever came into a digest (by joining, too) are known as well, "
            + "but are used by true quantiles alone.");
        QuantileDigests x = Made.holding(0, 100, 1000);
        Made.packToOne(x, 0);
        s.due("known when packed to one heap", x.truth(0, 500), 100);
        s.due("not used by a quantile: 1100 / 3", x.quantile(0, 500), 366);
        x.join(0, 1);
        s.due("known by joining", x.truth(1, 500), 100);
        s.due("not used by a quantile there", x.quantile(1, 500), 366);
        x.add(0, 7, 1);
        x.join(0, 1);
        // 0, 0, 7, 100, 100, 1000, 1000: index 2 from q 334 on, index 3 from q 500 on.
        s.due("twice by joining twice", x.truth(1, 500), 100);
        s.due("with the new one", x.truth(1, 499), 7);
        s.due("the former has its own alone", x.truth(0, 334), 7);
    }
}
