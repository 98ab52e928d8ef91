public final class QuantileDigests {
    public static final int INVALID_ARGUMENT = -1000001;
    public static final int NOT_POSSIBLE = -1000002;
    public static final int LIMIT_REACHED = -1000003;
    public static final int NOT_FOUND = -1000004;

    private static final int DIGESTS = 3;
    private static final int WEIGHT_LIMIT = 200;
    private static final int HIGHEST_VALUE = 9999;
    private static final int TIMES_LIMIT = 20;
    private static final int WHOLE = 1000;
    private static final int WORST_STEP = 100;
    private static final int HEAPS_ASKED_LIMIT = 60;

    private static final int FINENESS = 0;
    private static final int BUFFER_PLACES = 1;
    private static final int SETTINGS = 2;
    private static final int HIGHEST_FINENESS = 60;
    private static final int FIRST_FINENESS = 10;
    private static final int HIGHEST_BUFFER_PLACES = 20;
    private static final int FIRST_BUFFER_PLACES = 5;

    private static final int HISTORY_LIMIT = 4;
    private static final int TEXT_LIMIT = 60;
    private static final int LOWEST_CHARACTER = 32;
    private static final int HIGHEST_CHARACTER = 126;
    private static final int VALUE_DIGITS = 4;

    private static final int NO_FAULT = 0;
    private static final int NOT_OF_THE_FORM = 1;
    private static final int NO_SUCH_DIGEST = 2;
    private static final int TOO_HEAVY = 3;

    private static final int FLOAT_BIAS = 127;
    private static final int HIGHEST_FLOAT_EXPONENT = 254;
    private static final int FRACTION_BITS = 23;
    private static final int FRACTION_ONE = 1 << FRACTION_BITS;

    private final State state;
    private final History history;
    private final Row text;
    private final Part part;
    private final TextFault textFault;
    /** Where heaps are packed on trial; made once, as all calls share one room. */
    private final Heaps trial;

    public QuantileDigests() {
        state = new State();
        history = new History();
        text = new Row(TEXT_LIMIT);
        part = new Part();
        textFault = new TextFault();
        trial = new Heaps();
    }

    // ---- digests

    public int add(int digest, int value, int times) {
        Digest asked = state.digestAt(digest);
        if (asked == null || !isWithin(value, 0, HIGHEST_VALUE) || !isWithin(times, 1, TIMES_LIMIT)) {
            return INVALID_ARGUMENT;
        }
        if (asked.weight() + times > WEIGHT_LIMIT) {
            return LIMIT_REACHED;
        }
        history.record(state);
        for (int time = 0; time < times; time++) {
            asked.receive(value, state.settings);
        }
        return asked.weight();
    }

    public int pack(int digest) {
        Digest asked = state.digestAt(digest);
        if (asked == null) {
            return INVALID_ARGUMENT;
        }
        history.record(state);
        asked.packBy(state.settings.at(FINENESS));
        return asked.heaps.size();
    }

    public int join(int digest, int into) {
        Digest former = state.digestAt(digest);
        Digest latter = state.digestAt(into);
        if (former == null || latter == null || digest == into) {
            return INVALID_ARGUMENT;
        }
        if (former.weight() + latter.weight() > WEIGHT_LIMIT) {
            return LIMIT_REACHED;
        }
        history.record(state);
        latter.takeOver(former, state.settings.at(FINENESS));
        return latter.weight();
    }

    public int clear(int digest) {
        Digest asked = state.digestAt(digest);
        if (asked == null) {
            return INVALID_ARGUMENT;
        }
        history.record(state);
        int weight = asked.weight();
        asked.empty();
        return weight;
    }

    public int set(int what, int value) {
        if (!isWithin(what, 0, SETTINGS - 1) || !isWithin(value, 1, highestSetting(what))) {
            return INVALID_ARGUMENT;
        }
        history.record(state);
        int earlier = state.settings.at(what);
        state.settings.put(what, value);
        return earlier;
    }

    // ---- what there is

    public int heapOf(int digest, int heap, int what) {
        Digest asked = state.digestAt(digest);
        if (asked == null || heap < 0 || !isWithin(what, 0, 6)) {
            return INVALID_ARGUMENT;
        }
        Heaps heaps = asked.heaps;
        if (heap >= heaps.size()) {
            return NOT_FOUND;
        }
        switch (what) {
            case 0:
                return heaps.weights.at(heap);
            case 1:
                return heaps.sums.at(heap);
            case 2:
                return heaps.leasts.at(heap);
            case 3:
                return heaps.greatests.at(heap);
            case 4:
                return heaps.wholeMiddle(heap);
            case 5:
                return heaps.weightAheadOf(heap);
            default:
                return floatBits(heaps.floatMiddle(heap));
        }
    }

    public int bufferOf(int digest, int index) {
        Digest asked = state.digestAt(digest);
        if (asked == null || index < 0) {
            return INVALID_ARGUMENT;
        }
        return index < asked.buffer.length() ? asked.buffer.at(index) : NOT_FOUND;
    }

    public int digestOf(int digest, int what) {
        Digest asked = state.digestAt(digest);
        if (asked == null || !isWithin(what, 0, 8)) {
            return INVALID_ARGUMENT;
        }
        switch (what) {
            case 0:
                return asked.weight();
            case 1:
                return asked.heaps.size();
            case 2:
                return asked.buffer.length();
            case 3:
                return asked.weight() == 0 ? NOT_FOUND : asked.least();
            case 4:
                return asked.weight() == 0 ? NOT_FOUND : asked.greatest();
            case 5:
                return asked.sum();
            case 6:
                packOnTrial(asked);
                return trial.size();
            case 7:
                return asked.heaps.size() == 0 ? NOT_FOUND : asked.heaps.weights.greatest();
            default:
                return asked.packings;
        }
    }

    // ---- quantiles

    public int quantile(int digest, int q) {
        Digest asked = state.digestAt(digest);
        if (asked == null || !isWithin(q, 0, WHOLE)) {
            return INVALID_ARGUMENT;
        }
        if (asked.weight() == 0) {
            return NOT_POSSIBLE;
        }
        packOnTrial(asked);
        return trial.quantileAt(q);
    }

    public int truth(int digest, int q) {
        Digest asked = state.digestAt(digest);
        if (asked == null || !isWithin(q, 0, WHOLE)) {
            return INVALID_ARGUMENT;
        }
        return asked.weight() == 0 ? NOT_POSSIBLE : asked.trueQuantileAt(q);
    }

    public int worst(int digest, int what) {
        Digest asked = state.digestAt(digest);
        if (asked == null || !isWithin(what, 0, 1)) {
            return INVALID_ARGUMENT;
        }
        if (asked.weight() == 0) {
            return NOT_POSSIBLE;
        }
        packOnTrial(asked);
        int farthest = -1;
        int farthestQ = 0;
        for (int q = 0; q <= WHOLE; q += WORST_STEP) {
            int far = Math.abs(trial.quantileAt(q) - asked.trueQuantileAt(q));
            if (far > farthest) {
                farthest = far;
                farthestQ = q;
            }
        }
        return what == 0 ? farthestQ : farthest;
    }

    public int rank(int digest, int value) {
        Digest asked = state.digestAt(digest);
        if (asked == null || !isWithin(value, 0, HIGHEST_VALUE)) {
            return INVALID_ARGUMENT;
        }
        if (asked.weight() == 0) {
            return NOT_POSSIBLE;
        }
        packOnTrial(asked);
        return trial.greatestQAtMost(value);
    }

    public int width(int digest, int q) {
        Digest asked = state.digestAt(digest);
        if (asked == null || !isWithin(q, 0, WHOLE)) {
            return INVALID_ARGUMENT;
        }
        if (asked.weight() == 0) {
            return NOT_POSSIBLE;
        }
        packOnTrial(asked);
        return trial.widthAt(trueIndex(q, asked.weight()));
    }

    public int settingFor(int digest, int heaps) {
        Digest asked = state.digestAt(digest);
        if (asked == null || !isWithin(heaps, 1, HEAPS_ASKED_LIMIT)) {
            return INVALID_ARGUMENT;
        }
        for (int fineness = 1; fineness <= HIGHEST_FINENESS; fineness++) {
            trial.empty();
            trial.appendEach(asked.values);
            trial.packBy(fineness);
            if (trial.size() >= heaps) {
                return fineness;
            }
        }
        return NOT_FOUND;
    }

    public int count(int what) {
        switch (what) {
            case 0:
                return state.weight();
            case 1:
                return state.heapCount();
            case 2:
                return history.size();
            case 3:
                return text.length();
            case 20:
                return state.settings.at(FINENESS);
            case 21:
                return state.settings.at(BUFFER_PLACES);
            default:
                return INVALID_ARGUMENT;
        }
    }

    public int undo() {
        if (history.size() == 0) {
            return NOT_POSSIBLE;
        }
        history.restoreLatest(state);
        return history.size();
    }

    // ---- texts

    public int type(int character) {
        if (!isWithin(character, LOWEST_CHARACTER, HIGHEST_CHARACTER)) {
            return INVALID_ARGUMENT;
        }
        if (text.length() >= TEXT_LIMIT) {
            return LIMIT_REACHED;
        }
        text.append(character);
        return text.length();
    }

    public int clearText() {
        int length = text.length();
        text.empty();
        return length;
    }

    public int fault(int what) {
        if (!isWithin(what, 0, 2)) {
            return INVALID_ARGUMENT;
        }
        textFault.find(text, state, part);
        if (textFault.reason == NO_FAULT) {
            return NOT_FOUND;
        }
        if (what == 0) {
            return textFault.position;
        }
        if (what == 1) {
            return textFault.reason;
        }
        return textFault.reason == NOT_OF_THE_FORM ? textFault.cause : NOT_FOUND;
    }

    public int play() {
        textFault.find(text, state, part);
        if (textFault.reason != NO_FAULT) {
            return NOT_POSSIBLE;
        }
        history.record(state);
        int start = 0;
        for (int parts = 0; parts < TEXT_LIMIT && start < text.length(); parts++) {
            part.readFrom(text, start);
            Digest asked = state.digestAt(part.digest);
            for (int i = 0; asked != null && i < part.values.length(); i++) {
                asked.receive(part.values.at(i), state.settings);
            }
            start = part.end;
        }
        return state.weight();
    }

    private void packOnTrial(Digest digest) {
        trial.copyFrom(digest.heaps);
        trial.appendEach(digest.buffer);
        trial.packBy(state.settings.at(FINENESS));
    }

    private static boolean isWithin(int number, int lowest, int highest) {
        return number >= lowest && number <= highest;
    }

    private static int highestSetting(int what) {
        return what == FINENESS ? HIGHEST_FINENESS : HIGHEST_BUFFER_PLACES;
    }

    private static int trueIndex(int q, int weight) {
        return q * (weight - 1) / WHOLE;
    }

    /** Scaling by two is exact, so that the bits are those of the number itself. */
    private static int floatBits(float number) {
        if (!(number > 0f)) {
            return 0;
        }
        float scaled = number;
        int exponent = FLOAT_BIAS;
        for (; scaled >= 2f && exponent < HIGHEST_FLOAT_EXPONENT; exponent++) {
            scaled *= 0.5f;
        }
        for (; scaled < 1f && exponent > 1; exponent--) {
            scaled *= 2f;
        }
        int fraction = (int) (scaled * (float) FRACTION_ONE) - FRACTION_ONE;
        return (exponent << FRACTION_BITS) | fraction;
    }

    /** Whole numbers in a row of fixed room: no index can leave it, as each is tested here. */
    private static final class Row {
        private final int[] cells;
        private int length;

        Row(int room) {
            cells = new int[Math.max(room, 0)];
            length = 0;
        }

        int length() {
            return length;
        }

        /** Outside the row there is 0; no character that may be typed is 0. */
        int at(int index) {
            return index >= 0 && index < length ? cells[index] : 0;
        }

        void put(int index, int value) {
            if (index >= 0 && index < length) {
                cells[index] = value;
            }
        }

        void append(int value) {
            if (length < cells.length) {
                cells[length] = value;
                length++;
            }
        }

        void appendAll(Row other) {
            for (int i = 0; i < other.length; i++) {
                append(other.at(i));
            }
        }

        void exchange(int index, int other) {
            if (index >= 0 && index < length && other >= 0 && other < length) {
                int value = cells[index];
                cells[index] = cells[other];
                cells[other] = value;
            }
        }

        void insertInOrder(int value) {
            append(value);
            for (int i = length - 1; i > 0 && at(i - 1) > at(i); i--) {
                exchange(i - 1, i);
            }
        }

        void shortenTo(int newLength) {
            if (newLength >= 0 && newLength < length) {
                length = newLength;
            }
        }

        void empty() {
            length = 0;
        }

        void copyFrom(Row other) {
            length = Math.min(other.length, cells.length);
            System.arraycopy(other.cells, 0, cells, 0, length);
        }

        int total() {
            int total = 0;
            for (int i = 0; i < length; i++) {
                total += at(i);
            }
            return total;
        }

        int least() {
            int least = Integer.MAX_VALUE;
            for (int i = 0; i < length; i++) {
                least = Math.min(least, at(i));
            }
            return least;
        }

        int greatest() {
            int greatest = Integer.MIN_VALUE;
            for (int i = 0; i < length; i++) {
                greatest = Math.max(greatest, at(i));
            }
            return greatest;
        }
    }

    /** Heaps, each one index in four rows; a weight is 1 at least, so there are 200 at most. */
    private static final class Heaps {
        final Row weights = new Row(WEIGHT_LIMIT);
        final Row sums = new Row(WEIGHT_LIMIT);
        final Row leasts = new Row(WEIGHT_LIMIT);
        final Row greatests = new Row(WEIGHT_LIMIT);

        int size() {
            return weights.length();
        }

        void empty() {
            weights.empty();
            sums.empty();
            leasts.empty();
            greatests.empty();
        }

        void copyFrom(Heaps other) {
            weights.copyFrom(other.weights);
            sums.copyFrom(other.sums);
            leasts.copyFrom(other.leasts);
            greatests.copyFrom(other.greatests);
        }

        void appendEach(Row values) {
            for (int i = 0; i < values.length(); i++) {
                int value = values.at(i);
                weights.append(1);
                sums.append(value);
                leasts.append(value);
                greatests.append(value);
            }
        }

        void appendAll(Heaps other) {
            weights.appendAll(other.weights);
            sums.appendAll(other.sums);
            leasts.appendAll(other.leasts);
            greatests.appendAll(other.greatests);
        }

        int wholeMiddle(int heap) {
            int weight = weights.at(heap);
            return weight > 0 ? sums.at(heap) / weight : 0;
        }

        float floatMiddle(int heap) {
            int weight = weights.at(heap);
            return weight > 0 ? (float) sums.at(heap) / (float) weight : 0f;
        }

        int weightAheadOf(int heap) {
            int ahead = 0;
            for (int i = 0; i < heap && i < size(); i++) {
                ahead += weights.at(i);
            }
            return ahead;
        }

        void packBy(int fineness) {
            order();
            putTogether(fineness);
        }

        /** Only neighbours of unlike middles change places, so that of like ones the earlier stays ahead. */
        private void order() {
            for (int i = 1; i < size(); i++) {
                for (int j = i; j > 0 && isMiddleAbove(j - 1, j); j--) {
                    exchange(j - 1, j);
                }
            }
        }

        /** Middles are compared as fractions, as a division would round. */
        private boolean isMiddleAbove(int heap, int other) {
            long left = (long) sums.at(heap) * weights.at(other);
            long right = (long) sums.at(other) * weights.at(heap);
            return left > right;
        }

        private void exchange(int heap, int other) {
            weights.exchange(heap, other);
            sums.exchange(heap, other);
            leasts.exchange(heap, other);
            greatests.exchange(heap, other);
        }

        private void putTogether(int fineness) {
            int total = weights.total();
            int ahead = 0;
            int open = 0;
            for (int next = 1; next < size(); next++) {
                int both = weights.at(open) + weights.at(next);
                if (isWithinPlace(both, ahead, total, fineness)) {
                    unite(open, next);
                } else {
                    ahead += weights.at(open);
                    open++;
                    exchange(open, next);
                }
            }
            shortenTo(open + 1);
        }

        private static boolean isWithinPlace(int both, int ahead, int total, int fineness) {
            return both * total * fineness <= (2 * ahead + both) * (2 * total - 2 * ahead - both);
        }

        private void unite(int open, int next) {
            weights.put(open, weights.at(open) + weights.at(next));
            sums.put(open, sums.at(open) + sums.at(next));
            leasts.put(open, Math.min(leasts.at(open), leasts.at(next)));
            greatests.put(open, Math.max(greatests.at(open), greatests.at(next)));
        }

        private void shortenTo(int newSize) {
            weights.shortenTo(newSize);
            sums.shortenTo(newSize);
            leasts.shortenTo(newSize);
            greatests.shortenTo(newSize);
        }

        /**
         * The least value is taken as a middle at the place 0, the greatest one as a middle at the place 1000 * N,
         * so that one rule serves all three cases; at a place itself the case ahead and the one behind tell the same.
         */
        int quantileAt(int q) {
            int total = weights.total();
            int t = q * total;
            int ahead = 0;
            int place = 0;
            int sum = leasts.least();
            int weight = 1;
            for (int i = 0; i < size(); i++) {
                int nextSum = sums.at(i);
                int nextWeight = weights.at(i);
                int nextPlace = WHOLE * ahead + WHOLE / 2 * nextWeight;
                if (t <= nextPlace) {
                    return between(sum, weight, place, nextSum, nextWeight, nextPlace, t);
                }
                ahead += nextWeight;
                place = nextPlace;
                sum = nextSum;
                weight = nextWeight;
            }
            return between(sum, weight, place, greatests.greatest(), 1, WHOLE * total, t);
        }

        /** All is told over one divisor, so that nothing is rounded but the answer. */
        private static int between(long sum, long weight, long place,
                long nextSum, long nextWeight, long nextPlace, long t) {
            long way = nextPlace - place;
            long divisor = weight * nextWeight * way;
            if (divisor <= 0) {
                return 0;
            }
            long start = sum * nextWeight;
            long rise = nextSum * weight - start;
            return (int) Math.floorDiv(start * way + rise * (t - place), divisor);
        }

        /** Quantiles never fall as q grows, so that q can be found by halves. */
        int greatestQAtMost(int value) {
            int q = -1;
            for (int step = 512; step > 0; step /= 2) {
                if (q + step <= WHOLE && quantileAt(q + step) <= value) {
                    q += step;
                }
            }
            return q;
        }

        int widthAt(int index) {
            int weight = 0;
            for (int i = 0; i < size(); i++) {
                weight += weights.at(i);
                if (weight > index) {
                    return greatests.at(i) - leasts.at(i);
                }
            }
            return 0;
        }
    }

    private static final class Digest {
        final Heaps heaps = new Heaps();
        final Row buffer = new Row(HIGHEST_BUFFER_PLACES);
        /** All values that ever came, in order, for the true quantiles. */
        final Row values = new Row(WEIGHT_LIMIT);
        int packings = 0;

        int weight() {
            return heaps.weights.total() + buffer.length();
        }

        int sum() {
            return heaps.sums.total() + buffer.total();
        }

        int least() {
            return Math.min(heaps.leasts.least(), buffer.least());
        }

        int greatest() {
            return Math.max(heaps.greatests.greatest(), buffer.greatest());
        }

        int trueQuantileAt(int q) {
            return values.at(trueIndex(q, values.length()));
        }

        void receive(int value, Row settings) {
            if (buffer.length() >= settings.at(BUFFER_PLACES)) {
                packBy(settings.at(FINENESS));
            }
            buffer.append(value);
            values.insertInOrder(value);
        }

        void packBy(int fineness) {
            heaps.appendEach(buffer);
            buffer.empty();
            heaps.packBy(fineness);
            packings++;
        }

        void takeOver(Digest former, int fineness) {
            former.packBy(fineness);
            packBy(fineness);
            heaps.appendAll(former.heaps);
            packBy(fineness);
            for (int i = 0; i < former.values.length(); i++) {
                values.insertInOrder(former.values.at(i));
            }
        }

        void empty() {
            heaps.empty();
            buffer.empty();
            values.empty();
        }

        void copyFrom(Digest other) {
            heaps.copyFrom(other.heaps);
            buffer.copyFrom(other.buffer);
            values.copyFrom(other.values);
            packings = other.packings;
        }
    }

    /** What a change records: everything but the text. */
    private static final class State {
        final Row settings = new Row(SETTINGS);
        private final Digest first = new Digest();
        private final Digest second = new Digest();
        private final Digest third = new Digest();

        State() {
            settings.append(FIRST_FINENESS);
            settings.append(FIRST_BUFFER_PLACES);
        }

        /** null if there is no such digest. */
        Digest digestAt(int number) {
            switch (number) {
                case 0:
                    return first;
                case 1:
                    return second;
                case 2:
                    return third;
                default:
                    return null;
            }
        }

        int weight() {
            return first.weight() + second.weight() + third.weight();
        }

        int heapCount() {
            return first.heaps.size() + second.heaps.size() + third.heaps.size();
        }

        void copyFrom(State other) {
            settings.copyFrom(other.settings);
            first.copyFrom(other.first);
            second.copyFrom(other.second);
            third.copyFrom(other.third);
        }
    }

    /** Earlier states, the oldest one first; all are made once and written over. */
    private static final class History {
        private final State[] states = new State[HISTORY_LIMIT];
        private int size = 0;

        History() {
            for (int i = 0; i < states.length; i++) {
                states[i] = new State();
            }
        }

        int size() {
            return size;
        }

        void record(State state) {
            if (size >= states.length) {
                dropOldest();
            }
            State next = stateAt(size);
            if (next != null) {
                next.copyFrom(state);
                size++;
            }
        }

        void restoreLatest(State state) {
            State latest = stateAt(size - 1);
            if (latest != null) {
                state.copyFrom(latest);
                size--;
            }
        }

        /** The oldest state goes to the end, where it is written over next. */
        private void dropOldest() {
            for (int i = 1; i < states.length; i++) {
                State oldest = states[i - 1];
                states[i - 1] = states[i];
                states[i] = oldest;
            }
            size--;
        }

        private State stateAt(int index) {
            return index >= 0 && index < states.length ? states[index] : null;
        }
    }

    /** A part of the text. */
    private static final class Part {
        final Row values = new Row(TEXT_LIMIT);
        int digest = 0;
        /** Behind the ";" of a part of the form; else where it breaks off. */
        int end = 0;

        /** Tells whether the part that begins at start is of the form. */
        boolean readFrom(Row text, int start) {
            values.empty();
            end = start;
            digest = digitAt(text, end);
            if (digest < 0) {
                return false;
            }
            end++;
            boolean isMore = text.at(end) == ':';
            for (int read = 0; isMore && read < TEXT_LIMIT; read++) {
                end++;
                if (!readValue(text)) {
                    return false;
                }
                isMore = text.at(end) == ',';
            }
            if (values.length() == 0 || text.at(end) != ';') {
                return false;
            }
            end++;
            return true;
        }

        private boolean readValue(Row text) {
            int value = 0;
            int digits = 0;
            for (; digits < VALUE_DIGITS && digitAt(text, end) >= 0; digits++) {
                value = value * 10 + digitAt(text, end);
                end++;
            }
            if (digits == 0) {
                return false;
            }
            values.append(value);
            return true;
        }

        private static int digitAt(Row text, int index) {
            int character = text.at(index);
            return character >= '0' && character <= '9' ? character - '0' : -1;
        }
    }

    private static final class TextFault {
        /** The weights of the digests when the parts ahead are done. */
        private final Row weights = new Row(DIGESTS);
        int position = 0;
        int reason = NO_FAULT;
        int cause = 0;

        void find(Row text, State state, Part part) {
            startWeights(state);
            reason = NO_FAULT;
            int start = 0;
            for (int parts = 0; parts < TEXT_LIMIT && start < text.length(); parts++) {
                reason = reasonOf(text, start, part);
                if (reason != NO_FAULT) {
                    position = start;
                    cause = part.end - start;
                    return;
                }
                start = part.end;
            }
        }

        private void startWeights(State state) {
            weights.empty();
            for (int i = 0; i < DIGESTS; i++) {
                Digest digest = state.digestAt(i);
                weights.append(digest == null ? 0 : digest.weight());
            }
        }

        private int reasonOf(Row text, int start, Part part) {
            if (!part.readFrom(text, start)) {
                return NOT_OF_THE_FORM;
            }
            if (part.digest >= DIGESTS) {
                return NO_SUCH_DIGEST;
            }
            int weight = weights.at(part.digest) + part.values.length();
            if (weight > WEIGHT_LIMIT) {
                return TOO_HEAVY;
            }
            weights.put(part.digest, weight);
            return NO_FAULT;
        }
    }
}
