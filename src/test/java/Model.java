import java.math.BigInteger;
import java.util.ArrayDeque;
import java.util.ArrayList;
import java.util.Collections;
import java.util.Deque;
import java.util.List;
import java.util.regex.Matcher;
import java.util.regex.Pattern;

/** The document again, in other words: lists, big numbers, whole copies and patterns. */
final class Model {
    private static final int INVALID = -1000001;
    private static final int NOT_POSSIBLE = -1000002;
    private static final int LIMIT = -1000003;
    private static final int NOT_FOUND = -1000004;
    private static final Pattern PART = Pattern.compile("[0-9]:[0-9]{1,4}(,[0-9]{1,4})*;");

    private record Heap(int weight, int sum, int least, int greatest) {
        Heap with(Heap other) {
            return new Heap(weight + other.weight, sum + other.sum,
                    Math.min(least, other.least), Math.max(greatest, other.greatest));
        }
    }

    private static final class One {
        List<Heap> heaps = new ArrayList<>();
        List<Integer> buffer = new ArrayList<>();
        List<Integer> all = new ArrayList<>();
        int packed = 0;

        One copy() {
            One copy = new One();
            copy.heaps.addAll(heaps);
            copy.buffer.addAll(buffer);
            copy.all.addAll(all);
            copy.packed = packed;
            return copy;
        }
    }

    private static final class Everything {
        One[] ones = {new One(), new One(), new One()};
        int[] settings = {10, 5};

        Everything copy() {
            Everything copy = new Everything();
            copy.settings = settings.clone();
            for (int i = 0; i < 3; i++) {
                copy.ones[i] = ones[i].copy();
            }
            return copy;
        }
    }

    private Everything now = new Everything();
    private final Deque<Everything> history = new ArrayDeque<>();
    private final StringBuilder text = new StringBuilder();

    /** Calls the method with this index in the document's face. */
    int call(int method, int a, int b, int c) {
        switch (method) {
            case 0: return add(a, b, c);
            case 1: return pack(a);
            case 2: return join(a, b);
            case 3: return clear(a);
            case 4: return set(a, b);
            case 5: return heapOf(a, b, c);
            case 6: return bufferOf(a, b);
            case 7: return digestOf(a, b);
            case 8: return quantile(a, b);
            case 9: return truth(a, b);
            case 10: return worst(a, b);
            case 11: return rank(a, b);
            case 12: return width(a, b);
            case 13: return settingFor(a, b);
            case 14: return count(a);
            case 15: return undo();
            case 16: return type(a);
            case 17: return clearText();
            case 18: return fault(a);
            default: return play();
        }
    }

    private static boolean out(int number, int lowest, int highest) {
        return number < lowest || number > highest;
    }

    private static int weight(One one) {
        return one.heaps.stream().mapToInt(Heap::weight).sum() + one.buffer.size();
    }

    private void change() {
        history.addLast(now.copy());
        if (history.size() == 5) {
            history.removeFirst();
        }
    }

    private static List<Heap> units(List<Integer> values) {
        List<Heap> units = new ArrayList<>();
        for (int value : values) {
            units.add(new Heap(1, value, value, value));
        }
        return units;
    }

    private static List<Heap> packed(List<Heap> heaps, List<Integer> buffer, long setting) {
        List<Heap> all = new ArrayList<>(heaps);
        all.addAll(units(buffer));
        all.sort((x, y) -> Long.compare((long) x.sum() * y.weight(), (long) y.sum() * x.weight()));
        long n = all.stream().mapToInt(Heap::weight).sum();
        List<Heap> done = new ArrayList<>();
        long ahead = 0;
        Heap open = null;
        for (Heap heap : all) {
            if (open == null) {
                open = heap;
                continue;
            }
            long w = open.weight() + heap.weight();
            if (w * n * setting <= (2 * ahead + w) * (2 * n - 2 * ahead - w)) {
                open = open.with(heap);
            } else {
                done.add(open);
                ahead += open.weight();
                open = heap;
            }
        }
        if (open != null) {
            done.add(open);
        }
        return done;
    }

    private List<Heap> packed(One one) {
        return packed(one.heaps, one.buffer, now.settings[0]);
    }

    private void packIn(One one) {
        one.heaps = packed(one);
        one.buffer.clear();
        one.packed++;
    }

    private void come(One one, int value) {
        if (one.buffer.size() >= now.settings[1]) {
            packIn(one);
        }
        one.buffer.add(value);
        one.all.add(value);
    }

    private int add(int d, int value, int times) {
        if (out(d, 0, 2) || out(value, 0, 9999) || out(times, 1, 20)) {
            return INVALID;
        }
        One one = now.ones[d];
        if (weight(one) + times > 200) {
            return LIMIT;
        }
        change();
        for (int i = 0; i < times; i++) {
            come(one, value);
        }
        return weight(one);
    }

    private int pack(int d) {
        if (out(d, 0, 2)) {
            return INVALID;
        }
        change();
        packIn(now.ones[d]);
        return now.ones[d].heaps.size();
    }

    private int join(int d, int into) {
        if (out(d, 0, 2) || out(into, 0, 2) || d == into) {
            return INVALID;
        }
        if (weight(now.ones[d]) + weight(now.ones[into]) > 200) {
            return LIMIT;
        }
        change();
        packIn(now.ones[d]);
        packIn(now.ones[into]);
        now.ones[into].heaps.addAll(now.ones[d].heaps);
        now.ones[into].all.addAll(now.ones[d].all);
        packIn(now.ones[into]);
        return weight(now.ones[into]);
    }

    private int clear(int d) {
        if (out(d, 0, 2)) {
            return INVALID;
        }
        change();
        One empty = new One();
        empty.packed = now.ones[d].packed;
        int weight = weight(now.ones[d]);
        now.ones[d] = empty;
        return weight;
    }

    private int set(int what, int value) {
        if (out(what, 0, 1) || out(value, 1, what == 0 ? 60 : 20)) {
            return INVALID;
        }
        change();
        int was = now.settings[what];
        now.settings[what] = value;
        return was;
    }

    private int heapOf(int d, int heap, int what) {
        if (out(d, 0, 2) || heap < 0 || out(what, 0, 6)) {
            return INVALID;
        }
        List<Heap> heaps = now.ones[d].heaps;
        if (heap >= heaps.size()) {
            return NOT_FOUND;
        }
        Heap it = heaps.get(heap);
        int ahead = heaps.subList(0, heap).stream().mapToInt(Heap::weight).sum();
        int bits = Float.floatToIntBits((float) it.sum() / (float) it.weight());
        return new int[] {it.weight(), it.sum(), it.least(), it.greatest(), it.sum() / it.weight(), ahead, bits}[what];
    }

    private int bufferOf(int d, int index) {
        if (out(d, 0, 2) || index < 0) {
            return INVALID;
        }
        List<Integer> buffer = now.ones[d].buffer;
        return index < buffer.size() ? buffer.get(index) : NOT_FOUND;
    }

    private int digestOf(int d, int what) {
        if (out(d, 0, 2) || out(what, 0, 8)) {
            return INVALID;
        }
        One one = now.ones[d];
        switch (what) {
            case 0: return weight(one);
            case 1: return one.heaps.size();
            case 2: return one.buffer.size();
            case 3: return one.all.isEmpty() ? NOT_FOUND : Collections.min(one.all);
            case 4: return one.all.isEmpty() ? NOT_FOUND : Collections.max(one.all);
            case 5: return one.all.stream().mapToInt(Integer::intValue).sum();
            case 6: return packed(one).size();
            case 7: return one.heaps.stream().mapToInt(Heap::weight).max().orElse(NOT_FOUND);
            default: return one.packed;
        }
    }

    /** A fraction as {dividend, divisor}. */
    private static BigInteger[] fraction(long dividend, long divisor) {
        return new BigInteger[] {BigInteger.valueOf(dividend), BigInteger.valueOf(divisor)};
    }

    /** a + (b - a) * part / whole, rounded down. */
    private static int between(BigInteger[] a, BigInteger[] b, long part, long whole) {
        BigInteger way = b[0].multiply(a[1]).subtract(a[0].multiply(b[1]));
        BigInteger divisor = a[1].multiply(b[1]).multiply(BigInteger.valueOf(whole));
        BigInteger start = a[0].multiply(b[1]).multiply(BigInteger.valueOf(whole));
        BigInteger[] told = start.add(way.multiply(BigInteger.valueOf(part))).divideAndRemainder(divisor);
        return told[0].intValueExact() - (told[1].signum() < 0 ? 1 : 0);
    }

    private static int tell(List<Heap> heaps, int q) {
        long n = heaps.stream().mapToInt(Heap::weight).sum();
        long twiceT = 2L * q * n;
        long[] twicePlace = new long[heaps.size()];
        long ahead = 0;
        for (int i = 0; i < heaps.size(); i++) {
            twicePlace[i] = 1000 * (2 * ahead + heaps.get(i).weight());
            ahead += heaps.get(i).weight();
        }
        int last = heaps.size() - 1;
        int least = heaps.stream().mapToInt(Heap::least).min().orElseThrow();
        int greatest = heaps.stream().mapToInt(Heap::greatest).max().orElseThrow();
        if (twiceT <= twicePlace[0]) {
            return between(fraction(least, 1), middle(heaps.get(0)), twiceT, twicePlace[0]);
        }
        if (twiceT >= twicePlace[last]) {
            return between(middle(heaps.get(last)), fraction(greatest, 1),
                    twiceT - twicePlace[last], 2000 * n - twicePlace[last]);
        }
        int i = 0;
        while (!(twicePlace[i] <= twiceT && twiceT < twicePlace[i + 1])) {
            i++;
        }
        return between(middle(heaps.get(i)), middle(heaps.get(i + 1)),
                twiceT - twicePlace[i], twicePlace[i + 1] - twicePlace[i]);
    }

    private static BigInteger[] middle(Heap heap) {
        return fraction(heap.sum(), heap.weight());
    }

    private int asked(int d, int argument, int lowest, int highest) {
        if (out(d, 0, 2) || out(argument, lowest, highest)) {
            return INVALID;
        }
        return now.ones[d].all.isEmpty() ? NOT_POSSIBLE : 0;
    }

    private int quantile(int d, int q) {
        int error = asked(d, q, 0, 1000);
        return error != 0 ? error : tell(packed(now.ones[d]), q);
    }

    private int truth(int d, int q) {
        int error = asked(d, q, 0, 1000);
        if (error != 0) {
            return error;
        }
        List<Integer> sorted = new ArrayList<>(now.ones[d].all);
        Collections.sort(sorted);
        return sorted.get(q * (sorted.size() - 1) / 1000);
    }

    private int worst(int d, int what) {
        int error = asked(d, what, 0, 1);
        if (error != 0) {
            return error;
        }
        int[] found = {0, -1};
        for (int q = 0; q <= 1000; q += 100) {
            int far = Math.abs(quantile(d, q) - truth(d, q));
            if (far > found[1]) {
                found = new int[] {q, far};
            }
        }
        return found[what];
    }

    private int rank(int d, int value) {
        int error = asked(d, value, 0, 9999);
        if (error != 0) {
            return error;
        }
        List<Heap> heaps = packed(now.ones[d]);
        int q = 1000;
        while (q >= 0 && tell(heaps, q) > value) {
            q--;
        }
        return q;
    }

    private int width(int d, int q) {
        int error = asked(d, q, 0, 1000);
        if (error != 0) {
            return error;
        }
        int index = q * (weight(now.ones[d]) - 1) / 1000;
        for (Heap heap : packed(now.ones[d])) {
            if (index < heap.weight()) {
                return heap.greatest() - heap.least();
            }
            index -= heap.weight();
        }
        throw new IllegalStateException("no heap holds the index");
    }

    private int settingFor(int d, int heaps) {
        if (out(d, 0, 2) || out(heaps, 1, 60)) {
            return INVALID;
        }
        for (int setting = 1; setting <= 60; setting++) {
            if (packed(List.of(), now.ones[d].all, setting).size() >= heaps) {
                return setting;
            }
        }
        return NOT_FOUND;
    }

    private int count(int what) {
        switch (what) {
            case 0: return weight(now.ones[0]) + weight(now.ones[1]) + weight(now.ones[2]);
            case 1: return now.ones[0].heaps.size() + now.ones[1].heaps.size() + now.ones[2].heaps.size();
            case 2: return history.size();
            case 3: return text.length();
            case 20: return now.settings[0];
            case 21: return now.settings[1];
            default: return INVALID;
        }
    }

    private int undo() {
        if (history.isEmpty()) {
            return NOT_POSSIBLE;
        }
        now = history.removeLast();
        return history.size();
    }

    private int type(int character) {
        if (out(character, 32, 126)) {
            return INVALID;
        }
        if (text.length() == 60) {
            return LIMIT;
        }
        text.append((char) character);
        return text.length();
    }

    private int clearText() {
        int length = text.length();
        text.setLength(0);
        return length;
    }

    /** How many characters could still become a part. */
    private static int viable(String rest) {
        int length = 0;
        while (length < rest.length()) {
            Matcher matcher = PART.matcher(rest.substring(0, length + 1));
            if (!matcher.matches() && !matcher.hitEnd()) {
                return length;
            }
            length++;
        }
        return length;
    }

    /** {position, reason, cause}, or null. */
    private int[] findFault() {
        int[] weights = {weight(now.ones[0]), weight(now.ones[1]), weight(now.ones[2])};
        int start = 0;
        while (start < text.length()) {
            String rest = text.substring(start);
            Matcher matcher = PART.matcher(rest);
            if (!matcher.lookingAt()) {
                return new int[] {start, 1, viable(rest)};
            }
            int d = rest.charAt(0) - '0';
            if (d > 2) {
                return new int[] {start, 2, NOT_FOUND};
            }
            weights[d] += matcher.group().split(",").length;
            if (weights[d] > 200) {
                return new int[] {start, 3, NOT_FOUND};
            }
            start += matcher.end();
        }
        return null;
    }

    private int fault(int what) {
        if (out(what, 0, 2)) {
            return INVALID;
        }
        int[] found = findFault();
        return found == null ? NOT_FOUND : found[what];
    }

    private int play() {
        if (findFault() != null) {
            return NOT_POSSIBLE;
        }
        change();
        for (String part : text.toString().split(";")) {
            if (part.isEmpty()) {
                continue;
            }
            for (String value : part.substring(2).split(",")) {
                come(now.ones[part.charAt(0) - '0'], Integer.parseInt(value));
            }
        }
        return count(0);
    }
}
