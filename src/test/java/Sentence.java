import java.util.function.IntUnaryOperator;

/** A sentence of the document that names a boundary case, with its place; wrong answers are told with both. */
final class Sentence {
    private final String place;

    Sentence(String section, String words) {
        Document.tested(section, words);
        place = section + ", \"" + words + "\": ";
    }

    void due(String call, long got, long want) {
        Due.due(place + call, got, want);
    }

    void invalid(String call, long got) {
        due(call, got, QuantileDigests.INVALID_ARGUMENT);
    }

    void notPossible(String call, long got) {
        due(call, got, QuantileDigests.NOT_POSSIBLE);
    }

    void limit(String call, long got) {
        due(call, got, QuantileDigests.LIMIT_REACHED);
    }

    void notFound(String call, long got) {
        due(call, got, QuantileDigests.NOT_FOUND);
    }

    /** The call is taken with both ends of the range, and with nothing that is one outside, or far outside. */
    void range(String call, int lowest, int highest, IntUnaryOperator asked) {
        taken(call, lowest, asked);
        taken(call, highest, asked);
        for (int outside : new int[] {lowest - 1, highest + 1, Integer.MIN_VALUE, Integer.MAX_VALUE}) {
            invalid(call + " of " + outside, asked.applyAsInt(outside));
        }
    }

    private void taken(String call, int number, IntUnaryOperator asked) {
        Due.holds(place + call + " of " + number + " is taken",
            asked.applyAsInt(number) != QuantileDigests.INVALID_ARGUMENT);
    }
}
