import java.util.List;

/**
 * For each sentence of the document that names a boundary case a test of its own; at last it is looked up that no
 * sentence was left out.
 */
public final class BoundaryTests {
    /** Clauses that name no boundary of their own. */
    private static final List<String> WITHOUT_BOUNDARY = List.of(
        "A digest has heaps and a buffer.",
        "Ahead of the calls `add`, `pack`, `join`, `clear`, `set` the interface says: ---- digests.",
        "Ahead of the calls `heapOf`, `bufferOf`, `digestOf` the interface says: ---- what there is.",
        "Ahead of the calls `quantile`, `truth`, `worst`, `rank`, `width`, `settingFor`, `count`, `undo` the interface "
            + "says: ---- quantiles.",
        "Ahead of the calls `type`, `clearText`, `fault`, `play` the interface says: ---- texts.",
        "`int set(int what, int value)`: Sets a setting;",
        "`int heapOf(int digest, int heap, int what)`: Returns something of a heap.",
        "`int bufferOf(int digest, int index)`: Returns a value of the buffer.",
        "`int digestOf(int digest, int what)`: Returns something of a digest.",
        "`int quantile(int digest, int q)`: Tells a quantile.",
        "`int truth(int digest, int q)`: Tells a true quantile.",
        "`int count(int what)`: Returns a number.",
        "`int fault(int what)`: Tells about the fault of the text.",
        "Returns the number;",
        "Returns that;");

    private static final List<String> TERMS =
        List.of("Digests", "Packing", "Quantiles", "Settings", "Texts", "Changes and errors");

    public static void main(String[] args) {
        DigestSentences.test();
        PackingSentences.test();
        QuantileSentences.test();
        TextSentences.test();
        ChangeSentences.test();
        RefusedCalls.test();
        Promises1To6.test();
        Promises7To9.test();
        Promises10To15.test();
        Promises16To21.test();
        for (String section : TERMS) {
            Document.allTested(section, WITHOUT_BOUNDARY);
        }
        for (int promise = 1; promise <= 21; promise++) {
            Document.allTested("Promise " + promise, WITHOUT_BOUNDARY);
        }
        Due.end();
    }
}
