/** Objects and texts that tests begin with. */
final class Made {
    private Made() {
    }

    /** An object whose digest 0 got these values, one call each. */
    static QuantileDigests holding(int... values) {
        QuantileDigests x = new QuantileDigests();
        put(x, 0, values);
        return x;
    }

    static void put(QuantileDigests x, int digest, int... values) {
        for (int value : values) {
            x.add(digest, value, 1);
        }
    }

    /** Makes one heap of all values of the digest; the setting 0 is 60 then, by which few heaps are put together. */
    static void packToOne(QuantileDigests x, int digest) {
        x.set(0, 1);
        x.pack(digest);
        x.set(0, 60);
    }

    static void fillTo(QuantileDigests x, int digest, int weight) {
        fill(x, digest, 1, weight);
    }

    static void fill(QuantileDigests x, int digest, int value, int times) {
        for (int missing = times; missing > 0; missing -= 20) {
            x.add(digest, value, Math.min(20, missing));
        }
    }

    static void write(QuantileDigests x, String text) {
        x.clearText();
        for (int i = 0; i < text.length(); i++) {
            x.type(text.charAt(i));
        }
    }

    static QuantileDigests withText(String text) {
        QuantileDigests x = new QuantileDigests();
        write(x, text);
        return x;
    }
}
