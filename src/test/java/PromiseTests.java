/** For each promise: ordinary inputs, the edges that the document names, and wrong inputs. */
public final class PromiseTests {
    private static final int INVALID = QuantileDigests.INVALID_ARGUMENT;
    private static final int NOT_POSSIBLE = QuantileDigests.NOT_POSSIBLE;
    private static final int LIMIT = QuantileDigests.LIMIT_REACHED;
    private static final int NOT_FOUND = QuantileDigests.NOT_FOUND;

    public static void main(String[] args) {
        newObject();
        add();
        addPacksAFullBuffer();
        pack();
        packOrdersByMiddles();
        join();
        clear();
        set();
        heapOf();
        bufferOf();
        digestOf();
        quantile();
        truth();
        worst();
        rank();
        width();
        settingFor();
        count();
        undo();
        type();
        clearText();
        fault();
        causes();
        play();
        errorsChangeNothing();
        Due.end();
    }

    private static void due(String call, long got, long want) {
        Due.due(call, got, want);
    }

    private static void newObject() {
        QuantileDigests x = new QuantileDigests();
        for (int digest = 0; digest < 3; digest++) {
            for (int what : new int[] {0, 1, 2, 5, 6, 8}) {
                due("1: digestOf(" + digest + ", " + what + ")", x.digestOf(digest, what), 0);
            }
        }
        for (int what = 0; what < 4; what++) {
            due("1: count(" + what + ")", x.count(what), 0);
        }
        due("1: count(20)", x.count(20), 10);
        due("1: count(21)", x.count(21), 5);
        due("1: fault(1)", x.fault(1), NOT_FOUND);
        due("1: undo()", x.undo(), NOT_POSSIBLE);
    }

    private static void add() {
        QuantileDigests x = new QuantileDigests();
        due("2: of the least value", x.add(0, 0, 1), 1);
        due("2: of the greatest value", x.add(0, 9999, 1), 2);
        due("2: 20 times", x.add(0, 5, 20), 22);
        due("2: last digest", x.add(2, 5, 1), 1);
        due("2: digest 3", x.add(3, 5, 1), INVALID);
        due("2: digest -1", x.add(-1, 5, 1), INVALID);
        due("2: value -1", x.add(0, -1, 1), INVALID);
        due("2: value 10000", x.add(0, 10000, 1), INVALID);
        due("2: 0 times", x.add(0, 5, 0), INVALID);
        due("2: 21 times", x.add(0, 5, 21), INVALID);
        due("2: least int times", x.add(0, 5, Integer.MIN_VALUE), INVALID);
        Made.fillTo(x, 1, 199);
        due("2: 201 would be too much", x.add(1, 5, 2), LIMIT);
        due("2: 200 is not", x.add(1, 5, 1), 200);
        due("2: nothing more", x.add(1, 5, 1), LIMIT);
        due("2: wrong value ahead of limit", x.add(1, 10000, 1), INVALID);
    }

    private static void addPacksAFullBuffer() {
        QuantileDigests x = Made.holding(4, 3, 2, 1, 0);
        due("2: buffer full", x.digestOf(0, 2), 5);
        due("2: not packed yet", x.digestOf(0, 8), 0);
        x.add(0, 9, 1);
        due("2: packed", x.digestOf(0, 8), 1);
        due("2: five heaps", x.digestOf(0, 1), 5);
        due("2: least ahead", x.heapOf(0, 0, 1), 0);
        due("2: last one in the buffer", x.bufferOf(0, 0), 9);
        x.add(0, 9, 20);
        due("2: 26 values, packed ahead of each 6th", x.digestOf(0, 8), 5);
        due("2: one left", x.digestOf(0, 2), 1);
    }

    private static void pack() {
        QuantileDigests x = new QuantileDigests();
        due("3: empty", x.pack(0), 0);
        due("3: an empty one is packed too", x.digestOf(0, 8), 1);
        due("3: digest 3", x.pack(3), INVALID);
        due("3: digest -1", x.pack(-1), INVALID);
        x.add(0, 8, 1);
        due("3: one", x.pack(0), 1);
        due("3: twice", x.digestOf(0, 8), 2);
        due("3: buffer empty", x.digestOf(0, 2), 0);
        // N = 4, setting 0 = 2: w 2 goes 2*4*2=16 against 2*6=12 for the first pair (no), with W = 1
        // 16 against 4*4=16 (yes, just), w 3: 24 against 5*3=15 (no), with W = 3 there is none behind.
        x = Made.holding(1, 2, 3, 4);
        x.set(0, 2);
        due("3: only the middle two fit", x.pack(0), 3);
        due("3: first", x.heapOf(0, 0, 0), 1);
        due("3: second", x.heapOf(0, 1, 0), 2);
        due("3: second's sum", x.heapOf(0, 1, 1), 5);
        due("3: third", x.heapOf(0, 2, 1), 4);
        due("3: third has two ahead", x.heapOf(0, 2, 5), 3);
        x.set(0, 1);
        due("3: all fit", x.pack(0), 1);
        due("3: sum", x.heapOf(0, 0, 1), 10);
        due("3: least", x.heapOf(0, 0, 2), 1);
        due("3: greatest", x.heapOf(0, 0, 3), 4);
    }

    private static void packOrdersByMiddles() {
        // One heap of 0 and 3 (middle 3/2), then 1 and 2: the order is 1, 3/2, 2, though whole middles are 1, 1, 2.
        QuantileDigests x = Made.holding(0, 3);
        x.set(0, 1);
        x.pack(0);
        x.set(0, 60);
        x.add(0, 1, 1);
        x.add(0, 2, 1);
        due("3: three heaps", x.pack(0), 3);
        due("3: 1 ahead of 3/2", x.heapOf(0, 0, 0), 1);
        due("3: 3/2 next", x.heapOf(0, 1, 0), 2);
        due("3: its whole middle", x.heapOf(0, 1, 4), 1);
        due("3: 2 last", x.heapOf(0, 2, 1), 2);
        // A heap of 4 and 6 and a 5 that came later have like middles: the heap stays ahead.
        x = Made.holding(4, 6);
        x.set(0, 1);
        x.pack(0);
        x.set(0, 60);
        x.add(0, 5, 1);
        due("3: two heaps", x.pack(0), 2);
        due("3: earlier one ahead", x.heapOf(0, 0, 0), 2);
        due("3: later one behind", x.heapOf(0, 1, 0), 1);
    }

    private static void join() {
        QuantileDigests x = Made.holding(1, 2, 3);
        x.set(0, 60);
        x.add(1, 5, 2);
        due("4: join(0, 1)", x.join(0, 1), 5);
        due("4: former stays", x.digestOf(0, 0), 3);
        due("4: former is packed", x.digestOf(0, 1), 3);
        due("4: former once", x.digestOf(0, 8), 1);
        due("4: latter twice", x.digestOf(1, 8), 2);
        due("4: latter's heaps in order", x.heapOf(1, 0, 1), 1);
        due("4: latter's buffer", x.digestOf(1, 2), 0);
        due("4: all values are known", x.truth(1, 500), 3);
        due("4: last of them", x.truth(1, 1000), 5);
        due("4: same", x.join(1, 1), INVALID);
        due("4: digest 3", x.join(3, 1), INVALID);
        due("4: digest -1", x.join(-1, 1), INVALID);
        due("4: into 3", x.join(1, 3), INVALID);
        due("4: into -1", x.join(1, -1), INVALID);
        due("4: 3 and 3", x.join(3, 3), INVALID);
        due("4: empty into full", x.join(2, 1), 5);
        due("4: full into empty", x.join(1, 2), 5);
        x = new QuantileDigests();
        Made.fillTo(x, 0, 100);
        Made.fillTo(x, 1, 101);
        due("4: 201", x.join(0, 1), LIMIT);
        due("4: no pack by an error", x.digestOf(0, 2), 5);
        due("4: error order", x.join(0, 0), INVALID);
        Made.fillTo(x, 2, 100);
        due("4: 200", x.join(0, 2), 200);
        // Of like middles the latter's heaps are the earlier ones.
        x = new QuantileDigests();
        x.set(0, 1);
        x.add(0, 4, 1);
        x.add(0, 6, 1);
        x.pack(0);
        x.set(0, 60);
        x.add(1, 5, 1);
        x.join(0, 1);
        due("4: latter's heap ahead", x.heapOf(1, 0, 0), 1);
        due("4: former's heap behind", x.heapOf(1, 1, 0), 2);
    }

    private static void clear() {
        QuantileDigests x = Made.holding(1, 2, 3, 4, 5, 6);
        due("5: clear(0)", x.clear(0), 6);
        due("5: weight", x.digestOf(0, 0), 0);
        due("5: heaps", x.digestOf(0, 1), 0);
        due("5: buffer", x.digestOf(0, 2), 0);
        due("5: how often packed stays", x.digestOf(0, 8), 1);
        due("5: no true quantile", x.truth(0, 0), NOT_POSSIBLE);
        due("5: no values known", x.settingFor(0, 1), NOT_FOUND);
        due("5: again", x.clear(0), 0);
        due("5: digest 3", x.clear(3), INVALID);
        due("5: digest -1", x.clear(-1), INVALID);
        x.add(0, 7, 1);
        due("5: new values alone are known", x.truth(0, 0), 7);
    }

    private static void set() {
        QuantileDigests x = new QuantileDigests();
        due("6: set(0, 1)", x.set(0, 1), 10);
        due("6: set(0, 60)", x.set(0, 60), 1);
        due("6: it is", x.count(20), 60);
        due("6: set(1, 1)", x.set(1, 1), 5);
        due("6: set(1, 20)", x.set(1, 20), 1);
        due("6: it is, too", x.count(21), 20);
        due("6: set(0, 0)", x.set(0, 0), INVALID);
        due("6: set(0, 61)", x.set(0, 61), INVALID);
        due("6: set(1, 0)", x.set(1, 0), INVALID);
        due("6: set(1, 21)", x.set(1, 21), INVALID);
        due("6: set(2, 1)", x.set(2, 1), INVALID);
        due("6: set(-1, 1)", x.set(-1, 1), INVALID);
        x.add(0, 3, 20);
        due("6: buffer of 20", x.digestOf(0, 2), 20);
        x.set(1, 1);
        due("6: nothing is packed", x.digestOf(0, 2), 20);
        x.add(0, 3, 1);
        due("6: it was full", x.digestOf(0, 2), 1);
    }

    private static void heapOf() {
        QuantileDigests x = Made.holding(1, 2, 4);
        x.set(0, 1);
        x.pack(0);
        int[] dues = {3, 7, 1, 4, 2, 0, Float.floatToIntBits(7f / 3f)};
        for (int what = 0; what < dues.length; what++) {
            due("7: what " + what, x.heapOf(0, 0, what), dues[what]);
        }
        due("7: heap 1", x.heapOf(0, 1, 0), NOT_FOUND);
        due("7: greatest int", x.heapOf(0, Integer.MAX_VALUE, 0), NOT_FOUND);
        due("7: heap -1", x.heapOf(0, -1, 0), INVALID);
        due("7: what -1", x.heapOf(0, 0, -1), INVALID);
        due("7: what 7", x.heapOf(0, 0, 7), INVALID);
        due("7: error order", x.heapOf(0, 1, 7), INVALID);
        due("7: digest 3", x.heapOf(3, 0, 0), INVALID);
        due("7: digest -1", x.heapOf(-1, 0, 0), INVALID);
        for (int value : new int[] {0, 1, 2, 3, 4095, 4096, 9999}) {
            x = Made.holding(value);
            x.pack(0);
            due("7: bits of " + value, x.heapOf(0, 0, 6), Float.floatToIntBits((float) value));
        }
        bitsOfSmallMiddles();
    }

    private static void bitsOfSmallMiddles() {
        QuantileDigests x = Made.holding(1);
        x.set(0, 1);
        for (int weight = 1; weight < 200; weight += 19) {
            x.pack(0);
            due("7: bits of 1 / " + weight, x.heapOf(0, 0, 6), Float.floatToIntBits(1f / (float) weight));
            x.add(0, 0, 19);
        }
    }

    private static void bufferOf() {
        QuantileDigests x = Made.holding(7, 3, 7, 0);
        due("8: first", x.bufferOf(0, 0), 7);
        due("8: second", x.bufferOf(0, 1), 3);
        due("8: last", x.bufferOf(0, 3), 0);
        due("8: behind", x.bufferOf(0, 4), NOT_FOUND);
        due("8: other digest", x.bufferOf(1, 0), NOT_FOUND);
        due("8: index -1", x.bufferOf(0, -1), INVALID);
        due("8: digest 3", x.bufferOf(3, 9), INVALID);
        due("8: digest -1", x.bufferOf(-1, 0), INVALID);
        x.pack(0);
        due("8: empty by packing", x.bufferOf(0, 0), NOT_FOUND);
    }

    private static void digestOf() {
        QuantileDigests x = Made.holding(50, 10, 90);
        int[] dues = {3, 0, 3, 10, 90, 150, 3, NOT_FOUND, 0};
        for (int what = 0; what < dues.length; what++) {
            due("9: in the buffer, what " + what, x.digestOf(0, what), dues[what]);
        }
        x.set(0, 1);
        x.pack(0);
        x.add(0, 95, 1);
        x.add(0, 5, 1);
        x.set(0, 60);
        int[] later = {5, 1, 2, 5, 95, 250, 3, 3, 1};
        for (int what = 0; what < later.length; what++) {
            due("9: with a heap, what " + what, x.digestOf(0, what), later[what]);
        }
        due("9: nothing was packed by that", x.digestOf(0, 1), 1);
        due("9: empty, least", x.digestOf(1, 3), NOT_FOUND);
        due("9: empty, greatest", x.digestOf(1, 4), NOT_FOUND);
        due("9: empty, wouldbe heaps", x.digestOf(1, 6), 0);
        due("9: empty, heaviest", x.digestOf(1, 7), NOT_FOUND);
        due("9: what 9", x.digestOf(0, 9), INVALID);
        due("9: what -1", x.digestOf(0, -1), INVALID);
        due("9: digest 3", x.digestOf(3, 3), INVALID);
        due("9: digest -1", x.digestOf(-1, 0), INVALID);
    }

    private static void quantile() {
        QuantileDigests x = Made.holding(50, 10, 90, 30, 70);
        due("10: first", x.quantile(0, 0), 10);
        due("10: at a place", x.quantile(0, 100), 10);
        due("10: between", x.quantile(0, 250), 25);
        due("10: at another place", x.quantile(0, 300), 30);
        due("10: rounded down", x.quantile(0, 301), 30);
        due("10: rounded down, too", x.quantile(0, 499), 49);
        due("10: last place", x.quantile(0, 900), 90);
        due("10: last", x.quantile(0, 1000), 90);
        due("10: nothing is packed", x.digestOf(0, 8), 0);
        x.set(0, 1);
        // One heap: least 10, middle 50 at the place 2500, greatest 90.
        due("10: ahead of the only place", x.quantile(0, 250), 30);
        due("10: at the only place", x.quantile(0, 500), 50);
        due("10: behind the only place", x.quantile(0, 750), 70);
        due("10: q -1", x.quantile(0, -1), INVALID);
        due("10: q 1001", x.quantile(0, 1001), INVALID);
        due("10: digest 3", x.quantile(3, 0), INVALID);
        due("10: digest -1", x.quantile(-1, 0), INVALID);
        due("10: empty", x.quantile(1, 0), NOT_POSSIBLE);
        due("10: error order", x.quantile(1, 1001), INVALID);
        // Middle 1/2 at 1000, greatest 1: 1/2 + 1/2 * 999 / 1000 stays below 1.
        x = Made.holding(0, 1);
        x.set(0, 1);
        due("10: fractions are not rounded on the way", x.quantile(0, 999), 0);
        due("10: end", x.quantile(0, 1000), 1);
    }

    private static void truth() {
        QuantileDigests x = Made.holding(50, 10, 90, 30, 70);
        x.set(0, 1);
        x.pack(0);
        due("11: first", x.truth(0, 0), 10);
        due("11: index 0 still", x.truth(0, 249), 10);
        due("11: index 1", x.truth(0, 250), 30);
        due("11: index 3 still", x.truth(0, 999), 70);
        due("11: last", x.truth(0, 1000), 90);
        due("11: q -1", x.truth(0, -1), INVALID);
        due("11: q 1001", x.truth(0, 1001), INVALID);
        due("11: digest 3", x.truth(3, 0), INVALID);
        due("11: digest -1", x.truth(-1, 0), INVALID);
        due("11: empty", x.truth(1, 500), NOT_POSSIBLE);
        due("11: error order", x.truth(1, 1001), INVALID);
    }

    private static void worst() {
        QuantileDigests x = Made.holding(0, 100);
        x.set(0, 1);
        // Quantiles are 0, 10, .. 100, true ones 0 up to q 999: farthest at 900 by 90.
        due("12: q", x.worst(0, 0), 900);
        due("12: how far", x.worst(0, 1), 90);
        x.clear(0);
        x.add(0, 7, 3);
        due("12: of several the lowest", x.worst(0, 0), 0);
        due("12: not at all", x.worst(0, 1), 0);
        // 0, 100, 100: middle 66 2/3 at q 500: true are 0 up to q 400 (quantile 53 there), then 100 (66 there).
        x.clear(0);
        x.add(0, 0, 1);
        x.add(0, 100, 2);
        due("12: below the truth, or above", x.worst(0, 0), 400);
        due("12: how far it is", x.worst(0, 1), 53);
        due("12: what 2", x.worst(0, 2), INVALID);
        due("12: what -1", x.worst(0, -1), INVALID);
        due("12: digest 3", x.worst(3, 0), INVALID);
        due("12: digest -1", x.worst(-1, 0), INVALID);
        due("12: empty", x.worst(1, 0), NOT_POSSIBLE);
        due("12: error order", x.worst(1, 2), INVALID);
    }

    private static void rank() {
        QuantileDigests x = Made.holding(50, 10, 90, 30, 70);
        due("13: below all", x.rank(0, 9), -1);
        due("13: least", x.rank(0, 10), 109);
        due("13: between", x.rank(0, 49), 499);
        due("13: at a middle", x.rank(0, 50), 509);
        due("13: greatest", x.rank(0, 90), 1000);
        due("13: below the greatest", x.rank(0, 89), 899);
        due("13: above all", x.rank(0, 9999), 1000);
        due("13: value -1", x.rank(0, -1), INVALID);
        due("13: value 10000", x.rank(0, 10000), INVALID);
        due("13: digest 3", x.rank(3, 0), INVALID);
        due("13: digest -1", x.rank(-1, 0), INVALID);
        due("13: empty", x.rank(1, 0), NOT_POSSIBLE);
        due("13: error order", x.rank(1, 10000), INVALID);
        x = Made.holding(0);
        due("13: of 0", x.rank(0, 0), 1000);
        x = Made.holding(0, 9999);
        x.set(0, 1);
        due("13: q 0 alone", x.rank(0, 0), 0);
    }

    private static void width() {
        QuantileDigests x = Made.holding(1, 2, 30, 400);
        x.set(0, 2);
        // Packed: 1 | 2, 30 | 400.
        due("14: first", x.width(0, 0), 0);
        due("14: index 0 still", x.width(0, 333), 0);
        due("14: index 1", x.width(0, 334), 28);
        due("14: index 2 still", x.width(0, 999), 28);
        due("14: last", x.width(0, 1000), 0);
        due("14: q -1", x.width(0, -1), INVALID);
        due("14: q 1001", x.width(0, 1001), INVALID);
        due("14: digest 3", x.width(3, 0), INVALID);
        due("14: digest -1", x.width(-1, 0), INVALID);
        due("14: empty", x.width(1, 0), NOT_POSSIBLE);
        due("14: error order", x.width(1, 1001), INVALID);
        due("14: nothing is packed", x.digestOf(0, 1), 0);
    }

    private static void settingFor() {
        QuantileDigests x = Made.holding(1, 2, 3, 4);
        // By setting 1 there is one heap, by 2 there are three (see pack), by 3 the middle two don't fit: 24 against 16.
        due("15: one", x.settingFor(0, 1), 1);
        due("15: two", x.settingFor(0, 2), 2);
        due("15: three", x.settingFor(0, 3), 2);
        due("15: four", x.settingFor(0, 4), 3);
        due("15: five", x.settingFor(0, 5), NOT_FOUND);
        x.set(0, 1);
        x.pack(0);
        due("15: packed ones count as they came", x.settingFor(0, 4), 3);
        due("15: setting stays", x.count(20), 1);
        due("15: nothing is packed", x.digestOf(0, 8), 1);
        due("15: heaps 0", x.settingFor(0, 0), INVALID);
        due("15: heaps 61", x.settingFor(0, 61), INVALID);
        due("15: digest 3", x.settingFor(3, 1), INVALID);
        due("15: digest -1", x.settingFor(-1, 1), INVALID);
        due("15: empty", x.settingFor(1, 1), NOT_FOUND);
        due("15: error order", x.settingFor(1, 61), INVALID);
    }

    private static void count() {
        QuantileDigests x = Made.holding(1, 2, 3);
        x.add(2, 4, 2);
        x.pack(0);
        x.pack(2);
        x.type('a');
        due("16: weight", x.count(0), 5);
        due("16: heaps", x.count(1), 5);
        due("16: states, four at most", x.count(2), 4);
        due("16: text", x.count(3), 1);
        for (int what : new int[] {-1, 4, 19, 22, Integer.MAX_VALUE}) {
            due("16: what " + what, x.count(what), INVALID);
        }
    }

    private static void undo() {
        QuantileDigests x = new QuantileDigests();
        due("17: nothing", x.undo(), NOT_POSSIBLE);
        x.set(0, 7);
        x.set(1, 3);
        x.add(0, 5, 4);
        x.type('x');
        due("17: packed", x.digestOf(0, 8), 1);
        due("17: add", x.undo(), 2);
        due("17: values", x.digestOf(0, 0), 0);
        due("17: known values", x.truth(0, 0), NOT_POSSIBLE);
        due("17: how often packed", x.digestOf(0, 8), 0);
        due("17: text stays", x.count(3), 1);
        due("17: set", x.undo(), 1);
        due("17: setting 1", x.count(21), 5);
        due("17: setting 0", x.count(20), 7);
        due("17: first set", x.undo(), 0);
        due("17: setting 0 again", x.count(20), 10);
        due("17: no more", x.undo(), NOT_POSSIBLE);
        for (int value = 1; value <= 6; value++) {
            x.add(1, value, 1);
        }
        due("17: four at most", x.count(2), 4);
        x.undo();
        x.undo();
        x.undo();
        due("17: oldest one", x.undo(), 0);
        due("17: the first two stay", x.digestOf(1, 0), 2);
        due("17: dropped", x.undo(), NOT_POSSIBLE);
        x.add(1, 9, 1);
        due("17: it goes on", x.undo(), 0);
        due("17: as it was", x.digestOf(1, 4), 2);
        undoOfEachChange();
    }

    private static void undoOfEachChange() {
        QuantileDigests x = Made.holding(1);
        x.pack(0);
        due("17: after pack", x.count(2), 2);
        x.join(0, 1);
        due("17: after join", x.count(2), 3);
        x.clear(0);
        due("17: after clear", x.count(2), 4);
        due("17: clear", x.undo(), 3);
        due("17: weight is back", x.digestOf(0, 0), 1);
        due("17: value is back", x.truth(0, 0), 1);
        due("17: join", x.undo(), 2);
        due("17: latter is empty", x.digestOf(1, 0), 0);
        due("17: latter was not packed", x.digestOf(1, 8), 0);
        due("17: former was packed once", x.digestOf(0, 8), 1);
        due("17: pack", x.undo(), 1);
        due("17: in the buffer again", x.bufferOf(0, 0), 1);
    }

    private static void type() {
        QuantileDigests x = new QuantileDigests();
        due("18: least", x.type(32), 1);
        due("18: greatest", x.type(126), 2);
        due("18: 31", x.type(31), INVALID);
        due("18: 127", x.type(127), INVALID);
        due("18: it is no change", x.count(2), 0);
        for (int length = 3; length <= 60; length++) {
            due("18: length", x.type('0'), length);
        }
        due("18: full", x.type('0'), LIMIT);
        due("18: error order", x.type(31), INVALID);
        due("18: 60 stay", x.count(3), 60);
    }

    private static void clearText() {
        QuantileDigests x = new QuantileDigests();
        due("19: empty", x.clearText(), 0);
        Made.write(x, "0:5;");
        due("19: four", x.clearText(), 4);
        due("19: none", x.count(3), 0);
        due("19: it is no change", x.count(2), 0);
        x.type('9');
        due("19: new text", x.fault(2), 1);
    }

    private static void dueFault(String text, int position, int reason, int cause) {
        QuantileDigests x = new QuantileDigests();
        Made.write(x, text);
        due("20: position in " + text, x.fault(0), position);
        due("20: reason in " + text, x.fault(1), reason);
        due("20: cause in " + text, x.fault(2), cause);
    }

    private static void fault() {
        dueFault("", NOT_FOUND, NOT_FOUND, NOT_FOUND);
        dueFault("0:5;", NOT_FOUND, NOT_FOUND, NOT_FOUND);
        dueFault("2:0000,9999;1:1;", NOT_FOUND, NOT_FOUND, NOT_FOUND);
        dueFault("3:5;", 0, 2, NOT_FOUND);
        dueFault("0:1;9:5;", 4, 2, NOT_FOUND);
        dueFault("3:;", 0, 1, 2);
        dueFault("3:5;0:;", 0, 2, NOT_FOUND);
        dueFault("0:1;1:2;0:1,", 8, 1, 4);
        QuantileDigests x = new QuantileDigests();
        due("20: what -1", x.fault(-1), INVALID);
        due("20: what 3", x.fault(3), INVALID);
        Made.fillTo(x, 0, 197);
        Made.write(x, "0:1,2;1:1;0:3;");
        due("20: 200 are possible", x.fault(0), NOT_FOUND);
        Made.write(x, "0:1,2;1:1;0:3,4;0:;");
        due("20: 201 are not: position", x.fault(0), 10);
        due("20: reason", x.fault(1), 3);
        due("20: cause", x.fault(2), NOT_FOUND);
        Made.write(x, "0:1,2,3,4");
        due("20: form ahead of weight", x.fault(1), 1);
    }

    private static void causes() {
        dueFault(";", 0, 1, 0);
        dueFault("a", 0, 1, 0);
        dueFault("/:1;", 0, 1, 0);
        dueFault("::1;", 0, 1, 0);
        dueFault("0", 0, 1, 1);
        dueFault("00:1;", 0, 1, 1);
        dueFault("0;", 0, 1, 1);
        dueFault("0:", 0, 1, 2);
        dueFault("0:;", 0, 1, 2);
        dueFault("0:,1;", 0, 1, 2);
        dueFault("0: 1;", 0, 1, 2);
        dueFault("0:1", 0, 1, 3);
        dueFault("0:1:", 0, 1, 3);
        dueFault("0:1234", 0, 1, 6);
        dueFault("0:12345;", 0, 1, 6);
        dueFault("0:00000;", 0, 1, 6);
        dueFault("0:1,", 0, 1, 4);
        dueFault("0:1,;", 0, 1, 4);
        dueFault("0:1,,2;", 0, 1, 4);
        dueFault("0:1;;", 4, 1, 0);
        dueFault("0:1;1", 4, 1, 1);
        dueFault("0:1; 1:2;", 4, 1, 0);
        dueFault("0:1,1,1,1,1,1,1,1,1,1,1,1,1,1,1,1,1,1,1,1,1,1,1,1,1,1,1,1,1", 0, 1, 59);
        dueFault("0:1,1,1,1,1,1,1,1,1,1,1,1,1,1,1,1,1,1,1,1,1,1,1,1,1,1,1,1,1;", NOT_FOUND, NOT_FOUND, NOT_FOUND);
        dueFault("000000000000000000000000000000000000000000000000000000000000", 0, 1, 1);
    }

    private static void play() {
        QuantileDigests x = new QuantileDigests();
        due("21: empty text", x.play(), 0);
        due("21: is a change", x.count(2), 1);
        Made.write(x, "0:5,4,3,2,1,0;2:0012;0:7;");
        due("21: play()", x.play(), 8);
        due("21: one change", x.count(2), 2);
        due("21: text stays", x.count(3), 25);
        due("21: packed as by add", x.digestOf(0, 8), 1);
        due("21: in their order", x.bufferOf(0, 0), 0);
        due("21: last one", x.bufferOf(0, 1), 7);
        due("21: 0 ahead", x.digestOf(2, 3), 12);
        due("21: again", x.play(), 16);
        due("21: undo", x.undo(), 2);
        due("21: as before", x.count(0), 8);
        x.type('0');
        due("21: fault", x.play(), NOT_POSSIBLE);
        due("21: nothing came", x.count(0), 8);
        due("21: no change", x.count(2), 2);
        Made.fillTo(x, 1, 199);
        Made.write(x, "0:1;1:1,2;");
        due("21: too heavy", x.play(), NOT_POSSIBLE);
        due("21: not even its first part", x.count(0), 207);
        Made.write(x, "1:1;");
        due("21: just 200", x.play(), 208);
    }

    private static void errorsChangeNothing() {
        QuantileDigests x = Made.holding(1, 2);
        x.add(3, 1, 1);
        x.add(0, 1, 21);
        x.pack(3);
        x.join(0, 0);
        x.clear(-1);
        x.set(0, 0);
        x.type(0);
        due("errors: history", x.count(2), 2);
        due("errors: weight", x.count(0), 2);
        due("errors: setting", x.count(20), 10);
        due("errors: text", x.count(3), 0);
        due("errors: not packed", x.digestOf(0, 8), 0);
    }
}
