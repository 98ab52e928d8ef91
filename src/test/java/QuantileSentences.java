/** 'Quantiles' and 'Settings' of the document's terms. */
final class QuantileSentences {
    private QuantileSentences() {
    }

    static void test() {
        asIfPacked();
        places();
        upToTheFirstPlace();
        fromTheLastPlace();
        betweenPlaces();
        roundedDown();
        trueQuantile();
        settings();
    }

    private static void asIfPacked() {
        Sentence s = new Sentence("Quantiles", "A quantile of a digest is told for q thousandths (0 to 1000) "
            + "as if the digest was packed ahead of it (it is not).");
        QuantileDigests x = Made.holding(0, 100);
        x.set(0, 60);
        s.due("two heaps: at the place of the first one", x.quantile(0, 250), 0);
        x.set(0, 1);
        s.due("one heap: 50 * 500 / 1000", x.quantile(0, 250), 25);
        s.due("it is not packed", x.digestOf(0, 8), 0);
        s.due("it has no heap", x.digestOf(0, 1), 0);
        s.due("its buffer stays", x.digestOf(0, 2), 2);
        s.due("it is no change", x.count(2), 4);
        x.set(0, 60);
        x.pack(0);
        x.set(0, 1);
        s.due("heaps that are there are packed, too", x.quantile(0, 250), 25);
        s.due("but stay", x.digestOf(0, 1), 2);
        s.range("quantile", 0, 1000, q -> x.quantile(0, q));
    }

    private static void places() {
        Sentence s = new Sentence("Quantiles", "With t = q * N, and for each heap its place = 1000 * (W + half of its "
            + "weight) (W being the weight of heaps ahead of it; so 2 * place is a whole number)");
        // One heap of 0, 0, 30: its middle 10 at the place 1500, t = 3 * q.
        QuantileDigests x = Made.holding(0, 0, 30);
        x.set(0, 1);
        s.due("10 * 1497 / 1500", x.quantile(0, 499), 9);
        s.due("at half of an odd weight", x.quantile(0, 500), 10);
        s.due("10 + 20 * 222 / 1500", x.quantile(0, 574), 12);
        s.due("10 + 20 * 225 / 1500", x.quantile(0, 575), 13);
        // Two heaps, of 1 and of 0, 0, 30: places 500 and 2500 with 1 ahead, t = 4 * q.
        Made.packToOne(x, 0);
        x.add(0, 1, 1);
        s.due("W counts: 1 + 9 * 1996 / 2000", x.quantile(0, 624), 9);
        s.due("at 1000 + 1500", x.quantile(0, 625), 10);
    }

    private static void upToTheFirstPlace() {
        Sentence s = new Sentence("Quantiles", "if t is at most the place of the first heap, it is the least value of the "
            + "digest plus (the middle of the first heap less the least value) times t / place of the first heap;");
        // 40 is ahead of the heap of 0 and 100: the least value is in the second heap; places 500 and 2000, t = 3 * q.
        QuantileDigests x = Made.holding(0, 100);
        Made.packToOne(x, 0);
        x.add(0, 40, 1);
        s.due("t = 0: the least value of all", x.quantile(0, 0), 0);
        s.due("40 * 300 / 500", x.quantile(0, 100), 24);
        s.due("40 * 498 / 500", x.quantile(0, 166), 39);
        s.due("behind the place: 40 + 10 * 1 / 1500", x.quantile(0, 167), 40);
        QuantileDigests one = Made.holding(20, 60);
        one.set(0, 1);
        s.due("at the place: the middle", one.quantile(0, 500), 40);
        s.due("ahead of it: 20 + 20 * 998 / 1000", one.quantile(0, 499), 39);
        s.due("t = 0", one.quantile(0, 0), 20);
    }

    private static void fromTheLastPlace() {
        Sentence s = new Sentence("Quantiles", "if t is at least the place of the last heap, it is the middle of the last "
            + "heap plus (the greatest value of the digest less that middle) times (t less that place) / (1000 * N less "
            + "that place);");
        // 60 is behind the heap of 0 and 100: the greatest value is in the first heap; places 1000 and 2500, t = 3 * q.
        QuantileDigests x = Made.holding(0, 100);
        Made.packToOne(x, 0);
        x.add(0, 60, 1);
        s.due("ahead of the place: 50 + 10 * 1499 / 1500", x.quantile(0, 833), 59);
        s.due("60 + 40 * 200 / 500", x.quantile(0, 900), 76);
        s.due("60 + 40 * 497 / 500", x.quantile(0, 999), 99);
        s.due("t = 1000 * N: the greatest value of all", x.quantile(0, 1000), 100);
        // One more 60: the last place is 3500, t = 4 * q.
        x.add(0, 60, 1);
        s.due("at the place: the middle", x.quantile(0, 875), 60);
        s.due("60 + 40 * 48 / 500", x.quantile(0, 887), 63);
        s.due("60 + 40 * 52 / 500", x.quantile(0, 888), 64);
    }

    private static void betweenPlaces() {
        Sentence s = new Sentence("Quantiles", "otherwise, of the two heaps one behind another between whose places t is "
            + "(the first place is at most t, the second one above t), it is the middle of the first one plus (the middle "
            + "of the second one less that of the first one) times (t less the first place) / (the second place less the "
            + "first one).");
        QuantileDigests x = Made.holding(0, 100, 1000);
        s.due("ahead of the second place: 100 * 997 / 1000", x.quantile(0, 499), 99);
        s.due("at the second place", x.quantile(0, 500), 100);
        s.due("behind it: 100 + 900 * 3 / 1000", x.quantile(0, 501), 102);
        // The heap of 0 and 100 and two 50 behind it have like middles: nothing grows between them.
        QuantileDigests like = Made.holding(0, 100);
        Made.packToOne(like, 0);
        like.add(0, 50, 2);
        s.due("like middles, at the first place 1000", like.quantile(0, 250), 50);
        s.due("like middles, between", like.quantile(0, 500), 50);
        s.due("like middles, at the last place 3500", like.quantile(0, 875), 50);
    }

    private static void roundedDown() {
        Sentence s = new Sentence("Quantiles", "It is told as a whole number, rounded down.");
        QuantileDigests x = Made.holding(0, 1);
        x.set(0, 1);
        s.due("1/2 + 1/2 * 998 / 1000 is not yet 1", x.quantile(0, 999), 0);
        s.due("1 is", x.quantile(0, 1000), 1);
        // Middles 1/3 and 5/3 at 1500 and 4500: halfway it is 1, no less.
        QuantileDigests thirds = Made.holding(0, 0, 1);
        Made.put(thirds, 1, 1, 2, 2);
        thirds.set(0, 1);
        thirds.pack(0);
        thirds.pack(1);
        thirds.set(0, 60);
        thirds.join(0, 1);
        s.due("a whole number of thirds is not lowered", thirds.quantile(1, 500), 1);
        s.due("just below it", thirds.quantile(1, 499), 0);
    }

    private static void trueQuantile() {
        Sentence s = new Sentence("Quantiles", "The true quantile for q is, of all values that came into the digest, in "
            + "order, the one with the index (q * (N - 1)) / 1000, rounded down, from 0.");
        QuantileDigests x = Made.holding(6);
        s.due("of one, the first one", x.truth(0, 0), 6);
        s.due("of one, the last one", x.truth(0, 1000), 6);
        x.add(0, 2, 1);
        s.due("of two, the lesser one, though it came later", x.truth(0, 0), 2);
        s.due("of two, index 0.999", x.truth(0, 999), 2);
        s.due("of two, index 1", x.truth(0, 1000), 6);
        QuantileDigests full = Made.holding(9, 0);
        Made.fill(full, 0, 5, 198);
        s.due("of 200, index 0.995", full.truth(0, 5), 0);
        s.due("of 200, index 1.194", full.truth(0, 6), 5);
        s.due("of 200, index 198.801", full.truth(0, 999), 5);
        s.due("of 200, index 199", full.truth(0, 1000), 9);
    }

    private static void settings() {
        Sentence s = new Sentence("Settings",
            "The settings are (in parentheses: range; first value): 0 (1 to 60; 10), 1 (1 to 20; 5).");
        QuantileDigests x = new QuantileDigests();
        s.due("first value of 0", x.count(20), 10);
        s.due("first value of 1", x.count(21), 5);
        s.range("set 0 to", 1, 60, value -> x.set(0, value));
        s.range("set 1 to", 1, 20, value -> x.set(1, value));
        s.range("set a setting", 0, 1, what -> x.set(what, 7));
    }
}
