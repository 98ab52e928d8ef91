/** Promises 10 to 15: quantiles. */
final class Promises10To15 {
    private static final String DIGEST = "`digest`: 0 to 2";
    private static final String Q = "`q`: 0 to 1000";
    private static final String OUT_OF_RANGE = "INVALID_ARGUMENT if an argument is out of range;";
    private static final String EMPTY = "NOT_POSSIBLE if the digest is empty.";

    private Promises10To15() {
    }

    static void test() {
        quantileDigest();
        quantileQ();
        quantileReturns();
        quantileInvalid();
        quantileEmpty();
        truthDigest();
        truthQ();
        truthReturns();
        truthInvalid();
        truthEmpty();
        worst();
        worstDigest();
        worstLowest();
        worstHowFar();
        worstInvalid();
        worstEmpty();
        rank();
        rankOfEachQ();
        rankDigest();
        rankValue();
        rankNone();
        rankInvalid();
        rankEmpty();
        width();
        widthHeap();
        widthDigest();
        widthQ();
        widthReturns();
        widthInvalid();
        widthEmpty();
        settingFor();
        settingForDigest();
        settingForHeaps();
        settingForReturns();
        settingForInvalid();
        settingForNone();
    }

    private static QuantileDigests holdingBy(int setting, int... values) {
        QuantileDigests x = Made.holding(values);
        x.set(0, setting);
        return x;
    }

    private static void quantileDigest() {
        Sentence s = new Sentence("Promise 10", DIGEST);
        QuantileDigests x = Made.holding(5);
        s.range("quantile", 0, 2, digest -> x.quantile(digest, 500));
    }

    private static void quantileQ() {
        Sentence s = new Sentence("Promise 10", Q);
        QuantileDigests x = Made.holding(5, 9);
        s.range("quantile", 0, 1000, q -> x.quantile(0, q));
        s.due("least q", x.quantile(0, 0), 5);
        s.due("greatest q", x.quantile(0, 1000), 9);
    }

    private static void quantileReturns() {
        Sentence s = new Sentence("Promise 10", "Returns the value;");
        QuantileDigests x = Made.holding(5);
        s.due("of one value, at first", x.quantile(0, 0), 5);
        s.due("of one value, at its place", x.quantile(0, 500), 5);
        s.due("of one value, at last", x.quantile(0, 1000), 5);
        QuantileDigests full = new QuantileDigests();
        Made.fill(full, 0, 9999, 200);
        s.due("the greatest sums at first", full.quantile(0, 0), 9999);
        s.due("the greatest sums halfway", full.quantile(0, 501), 9999);
        s.due("the greatest sums at last", full.quantile(0, 1000), 9999);
        full.set(0, 1);
        s.due("the greatest heap", full.quantile(0, 999), 9999);
    }

    private static void quantileInvalid() {
        Sentence s = new Sentence("Promise 10", OUT_OF_RANGE);
        QuantileDigests x = Made.holding(5);
        s.invalid("q 1001", x.quantile(0, 1001));
        s.invalid("q -1", x.quantile(0, -1));
        s.invalid("digest 3", x.quantile(3, 0));
        s.invalid("both", x.quantile(-1, -1));
    }

    private static void quantileEmpty() {
        Sentence s = new Sentence("Promise 10", EMPTY);
        QuantileDigests x = Made.holding(5);
        s.notPossible("at first", x.quantile(1, 0));
        x.pack(1);
        s.notPossible("packed", x.quantile(1, 1000));
        x.clear(0);
        s.notPossible("cleared", x.quantile(0, 500));
    }

    private static void truthDigest() {
        Sentence s = new Sentence("Promise 11", DIGEST);
        QuantileDigests x = Made.holding(5);
        s.range("truth", 0, 2, digest -> x.truth(digest, 500));
    }

    private static void truthQ() {
        Sentence s = new Sentence("Promise 11", Q);
        QuantileDigests x = Made.holding(5, 9);
        s.range("truth", 0, 1000, q -> x.truth(0, q));
        s.due("least q", x.truth(0, 0), 5);
        s.due("greatest q", x.truth(0, 1000), 9);
    }

    private static void truthReturns() {
        Sentence s = new Sentence("Promise 11", "Returns the value;");
        QuantileDigests x = Made.holding(50, 10, 90, 30, 70);
        Made.packToOne(x, 0);
        s.due("index 0.996", x.truth(0, 249), 10);
        s.due("index 1", x.truth(0, 250), 30);
        s.due("index 3.996", x.truth(0, 999), 70);
        s.due("index 4", x.truth(0, 1000), 90);
    }

    private static void truthInvalid() {
        Sentence s = new Sentence("Promise 11", OUT_OF_RANGE);
        QuantileDigests x = Made.holding(5);
        s.invalid("q 1001", x.truth(0, 1001));
        s.invalid("q -1", x.truth(0, -1));
        s.invalid("digest 3", x.truth(3, 0));
        s.invalid("both", x.truth(-1, -1));
    }

    private static void truthEmpty() {
        Sentence s = new Sentence("Promise 11", EMPTY);
        QuantileDigests x = Made.holding(5);
        s.notPossible("at first", x.truth(1, 0));
        x.clear(0);
        s.notPossible("cleared", x.truth(0, 1000));
    }

    private static void worst() {
        Sentence s = new Sentence("Promise 12", "Finds the q of 0, 100, 200 and so on to 1000 for which quantile() and "
            + "truth() are farthest from one another.");
        QuantileDigests x = holdingBy(1, 0, 100);
        s.due("farther at 999", x.quantile(0, 999), 99);
        s.due("but 900 is the farthest of those", x.worst(0, 0), 900);
        s.due("by 90", x.worst(0, 1), 90);
        // 0 and nine 100: the middle 90 is at 5000; at q 200 it is 36, the true one 100; at q 100 it is 18, and 0.
        QuantileDigests below = holdingBy(1, 0);
        below.add(0, 100, 9);
        s.due("the quantile below the true one", below.worst(0, 0), 200);
        s.due("by 64", below.worst(0, 1), 64);
    }

    private static void worstDigest() {
        Sentence s = new Sentence("Promise 12", DIGEST);
        QuantileDigests x = Made.holding(5);
        s.range("worst", 0, 2, digest -> x.worst(digest, 0));
    }

    private static void worstLowest() {
        Sentence s = new Sentence("Promise 12", "0: q, of several the lowest;");
        // Two heaps at 500 and 1500: from q 750 on it is 100, the true one is 0 to 999.
        s.due("of 800 and 900", Made.holding(0, 100).worst(0, 0), 800);
        s.due("of all", Made.holding(7, 7, 7).worst(0, 0), 0);
    }

    private static void worstHowFar() {
        Sentence s = new Sentence("Promise 12", "1: how far they are");
        s.due("of 800 and 900", Made.holding(0, 100).worst(0, 1), 100);
        s.due("not at all", Made.holding(7, 7, 7).worst(0, 1), 0);
        s.due("as far as can be", Made.holding(0, 9999).worst(0, 1), 9999);
    }

    private static void worstInvalid() {
        Sentence s = new Sentence("Promise 12", OUT_OF_RANGE);
        QuantileDigests x = Made.holding(5);
        s.range("worst what", 0, 1, what -> x.worst(0, what));
        s.invalid("digest 3", x.worst(3, 0));
        s.invalid("both", x.worst(-1, 2));
    }

    private static void worstEmpty() {
        Sentence s = new Sentence("Promise 12", EMPTY);
        QuantileDigests x = Made.holding(5);
        s.notPossible("at first, q", x.worst(1, 0));
        s.notPossible("at first, how far", x.worst(1, 1));
        x.clear(0);
        s.notPossible("cleared", x.worst(0, 0));
    }

    private static void rank() {
        Sentence s = new Sentence("Promise 13", "the greatest q for which quantile() is at most the value.");
        QuantileDigests x = Made.holding(50, 10, 90, 30, 70);
        // Places 500, 1500 .. 4500, t = 5 * q: 10 to q 100, then one more each 10 of q.
        s.due("the least value, to 10.9", x.rank(0, 10), 109);
        s.due("one more", x.rank(0, 11), 119);
        s.due("at most 89", x.rank(0, 89), 899);
        s.due("the greatest value", x.rank(0, 90), 1000);
        QuantileDigests one = holdingBy(1, 0, 9999);
        // The middle 4999.5 is at 1000: 9.999 at q 1, 9989.001 at q 999.
        s.due("q 0 alone", one.rank(0, 8), 0);
        s.due("q 1", one.rank(0, 9), 1);
        s.due("all but the last q", one.rank(0, 9998), 999);
        s.due("q 998", one.rank(0, 9988), 998);
        s.due("the last q", one.rank(0, 9999), 1000);
        s.due("it is not packed", one.digestOf(0, 8), 0);
    }

    /** Of 0 and 9999 in one heap the quantile for q is 9.999 * q, so that each q has values of its own. */
    private static void rankOfEachQ() {
        Sentence s = new Sentence("Promise 13", "how many thousandths of the weight are told to be at most as great as a value");
        QuantileDigests x = holdingBy(1, 0, 9999);
        for (int q = 0; q <= 1000; q++) {
            if (q % 250 == 0) {
                x = holdingBy(1, 0, 9999);
            }
            s.due("the quantile of " + q, x.rank(0, 9999 * q / 1000), q);
        }
    }

    private static void rankDigest() {
        Sentence s = new Sentence("Promise 13", DIGEST);
        QuantileDigests x = Made.holding(5);
        s.range("rank", 0, 2, digest -> x.rank(digest, 5));
    }

    private static void rankValue() {
        Sentence s = new Sentence("Promise 13", "`value`: 0 to 9999");
        QuantileDigests x = Made.holding(0, 9999);
        s.range("rank", 0, 9999, value -> x.rank(0, value));
        s.due("least value: 0 to q 250", x.rank(0, 0), 250);
        s.due("greatest value", x.rank(0, 9999), 1000);
    }

    private static void rankNone() {
        Sentence s = new Sentence("Promise 13", "Returns q, or -1 if there is none;");
        s.due("below the least value", Made.holding(5).rank(0, 4), -1);
        s.due("the least value", Made.holding(5).rank(0, 5), 1000);
        s.due("0 below 1", Made.holding(1, 9).rank(0, 0), -1);
        s.due("0 is not below 0", Made.holding(0).rank(0, 0), 1000);
    }

    private static void rankInvalid() {
        Sentence s = new Sentence("Promise 13", OUT_OF_RANGE);
        QuantileDigests x = Made.holding(5);
        s.invalid("value 10000", x.rank(0, 10000));
        s.invalid("value -1", x.rank(0, -1));
        s.invalid("digest 3", x.rank(3, 0));
        s.invalid("both", x.rank(-1, -1));
    }

    private static void rankEmpty() {
        Sentence s = new Sentence("Promise 13", EMPTY);
        QuantileDigests x = Made.holding(5);
        s.notPossible("at first", x.rank(1, 0));
        x.clear(0);
        s.notPossible("cleared", x.rank(0, 9999));
    }

    private static void width() {
        Sentence s = new Sentence("Promise 14", "Tells how wide the heap is (the greatest value less the least one)");
        s.due("one value", Made.holding(5).width(0, 500), 0);
        s.due("like values", holdingBy(1, 5, 5).width(0, 500), 0);
        s.due("as wide as can be", holdingBy(1, 0, 9999).width(0, 0), 9999);
        s.due("two heaps are not wide", holdingBy(60, 0, 9999).width(0, 0), 0);
    }

    private static void widthHeap() {
        Sentence s = new Sentence("Promise 14", "(of heaps as if the digest was packed ahead: the first one with which the "
            + "weights come above this index)");
        // 1 | 2, 30 | 400: the weights come to 1, 3, 4.
        QuantileDigests x = holdingBy(2, 1, 2, 30, 400);
        s.due("index 0", x.width(0, 0), 0);
        s.due("index 0.999", x.width(0, 333), 0);
        s.due("index 1.002 is not below 1", x.width(0, 334), 28);
        s.due("index 2.001", x.width(0, 667), 28);
        s.due("index 2.997", x.width(0, 999), 28);
        s.due("index 3 is not below 3", x.width(0, 1000), 0);
        s.due("it is not packed", x.digestOf(0, 2), 4);
        x.set(0, 1);
        s.due("as if packed to one", x.width(0, 1000), 399);
    }

    private static void widthDigest() {
        Sentence s = new Sentence("Promise 14", DIGEST);
        QuantileDigests x = Made.holding(5);
        s.range("width", 0, 2, digest -> x.width(digest, 500));
    }

    private static void widthQ() {
        Sentence s = new Sentence("Promise 14", Q);
        // 40, then the heap of 0 and 100.
        QuantileDigests x = Made.holding(0, 100);
        Made.packToOne(x, 0);
        x.add(0, 40, 1);
        s.range("width", 0, 1000, q -> x.width(0, q));
        s.due("least q", x.width(0, 0), 0);
        s.due("greatest q", x.width(0, 1000), 100);
    }

    private static void widthReturns() {
        Sentence s = new Sentence("Promise 14", "Returns the width;");
        QuantileDigests x = new QuantileDigests();
        Made.fill(x, 0, 0, 199);
        x.add(0, 9999, 1);
        Made.packToOne(x, 0);
        s.due("of the heaviest heap, first index", x.width(0, 0), 9999);
        s.due("of the heaviest heap, last index", x.width(0, 1000), 9999);
    }

    private static void widthInvalid() {
        Sentence s = new Sentence("Promise 14", OUT_OF_RANGE);
        QuantileDigests x = Made.holding(5);
        s.invalid("q 1001", x.width(0, 1001));
        s.invalid("q -1", x.width(0, -1));
        s.invalid("digest 3", x.width(3, 0));
        s.invalid("both", x.width(-1, -1));
    }

    private static void widthEmpty() {
        Sentence s = new Sentence("Promise 14", EMPTY);
        QuantileDigests x = Made.holding(5);
        s.notPossible("at first", x.width(1, 0));
        x.clear(0);
        s.notPossible("cleared", x.width(0, 1000));
    }

    private static void settingFor() {
        Sentence s = new Sentence("Promise 15", "Finds the least setting 0 by which a digest would have some number of "
            + "heaps at least, if all values that came into it were heaps of the weight 1, and were packed at once.");
        // By 1 it is one heap, by 2 it is 1 | 2, 3 | 4, by 3 it is four.
        QuantileDigests x = Made.holding(4, 3, 2, 1);
        s.due("three", x.settingFor(0, 3), 2);
        s.due("two at least: three as well", x.settingFor(0, 2), 2);
        s.due("four", x.settingFor(0, 4), 3);
        Made.packToOne(x, 0);
        s.due("as they came, not as they are packed", x.settingFor(0, 4), 3);
        x.join(0, 1);
        s.due("those that came by joining, too", x.settingFor(1, 4), 3);
        s.due("the setting stays", x.count(20), 60);
    }

    private static void settingForDigest() {
        Sentence s = new Sentence("Promise 15", DIGEST);
        s.range("settingFor", 0, 2, digest -> new QuantileDigests().settingFor(digest, 1));
    }

    private static void settingForHeaps() {
        Sentence s = new Sentence("Promise 15", "`heaps`: 1 to 60");
        QuantileDigests x = new QuantileDigests();
        Made.fillTo(x, 0, 60);
        s.range("settingFor", 1, 60, heaps -> x.settingFor(0, heaps));
        s.due("one heap", x.settingFor(0, 1), 1);
        // 120 * 30 is at most 60 * 60, 120 * 31 is not: by 30 two are put together in the midst.
        s.due("60 of 60", x.settingFor(0, 60), 31);
        // 120 * 29 is at most 50 * 70: there are six such by 29.
        s.due("59 of 60", x.settingFor(0, 59), 30);
    }

    private static void settingForReturns() {
        Sentence s = new Sentence("Promise 15", "Returns the setting, 1 to 60;");
        QuantileDigests x = Made.holding(8, 9);
        // 4 is at most 4, 8 is not.
        s.due("the least one", x.settingFor(0, 1), 1);
        s.due("two heaps", x.settingFor(0, 2), 2);
        // By 32 144 * 32 is just at most 48 * 96: 13 pairs from there to 96 * 48. By 33 there are 11 from 52 * 92 on.
        Made.fillTo(x, 1, 72);
        s.due("the greatest one that can be needed", x.settingFor(1, 60), 33);
    }

    private static void settingForInvalid() {
        Sentence s = new Sentence("Promise 15", OUT_OF_RANGE);
        QuantileDigests x = Made.holding(5);
        s.invalid("no heap", x.settingFor(0, 0));
        s.invalid("61 heaps", x.settingFor(0, 61));
        s.invalid("digest 3", x.settingFor(3, 1));
        s.invalid("both, of which one alone would not be found", x.settingFor(-1, 61));
    }

    private static void settingForNone() {
        Sentence s = new Sentence("Promise 15", "NOT_FOUND if there is none.");
        QuantileDigests x = new QuantileDigests();
        s.notFound("of an empty one", x.settingFor(0, 1));
        x.add(0, 5, 1);
        s.due("one of one", x.settingFor(0, 1), 1);
        s.notFound("two of one", x.settingFor(0, 2));
        Made.fillTo(x, 1, 59);
        // 118 * 29 = 3422 is at most 58 * 60, 118 * 30 is not.
        s.due("59 of 59", x.settingFor(1, 59), 30);
        s.notFound("60 of 59", x.settingFor(1, 60));
        x.clear(0);
        s.notFound("of a cleared one", x.settingFor(0, 1));
    }
}
