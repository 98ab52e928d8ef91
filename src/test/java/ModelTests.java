import java.util.Random;

/** Long runs of calls, drawn from fixed seeds, on the class and on the model side by side. */
public final class ModelTests {
    private static final int RUNS = 1500;
    private static final int CALLS = 512;
    private static final int TYPE = 16;
    private static final int CLEAR_TEXT = 17;
    private static final int[] ODD = {Integer.MIN_VALUE, -1, 0, 1, 2, 3, 20, 21, 60, 61, 200, 1000, 1001, 9999, 10000,
        Integer.MAX_VALUE};
    private static final String[] NAMES = {"add", "pack", "join", "clear", "set", "heapOf", "bufferOf", "digestOf",
        "quantile", "truth", "worst", "rank", "width", "settingFor", "count", "undo", "type", "clearText", "fault",
        "play"};
    /** How often each method is called: changes that add come often, those that take away seldom. */
    private static final int[] OFTEN = {14, 4, 4, 1, 4, 10, 3, 8, 10, 6, 4, 5, 6, 2, 4, 2, 2, 1, 4, 3};

    private final Random random;
    private final int run;
    private final QuantileDigests x = new QuantileDigests();
    private final Model model = new Model();
    private final int valueKind;
    private int calls = 0;

    private ModelTests(int run) {
        this.run = run;
        random = new Random(run);
        valueKind = random.nextInt(4);
    }

    public static void main(String[] args) {
        for (int run = 0; run < RUNS && Due.wrong() < 20; run++) {
            new ModelTests(run).play();
        }
        Due.end();
    }

    private void play() {
        while (calls < CALLS) {
            if (random.nextInt(12) == 0) {
                write();
            } else {
                draw(method());
            }
        }
    }

    private void write() {
        call(CLEAR_TEXT, 0, 0, 0);
        StringBuilder text = new StringBuilder();
        int parts = random.nextInt(4);
        for (int part = 0; part < parts; part++) {
            text.append(random.nextInt(random.nextInt(8) == 0 ? 10 : 3)).append(':').append(value());
            for (int more = random.nextInt(12); more > 0; more--) {
                text.append(',').append(random.nextInt(8) == 0 ? "00" : "").append(value() % 100);
            }
            text.append(';');
        }
        if (text.length() > 0 && random.nextInt(3) == 0) {
            text.setCharAt(random.nextInt(text.length()), "0123456789:;, a/".charAt(random.nextInt(16)));
        }
        if (random.nextInt(4) == 0) {
            text.setLength(random.nextInt(text.length() + 1));
        }
        for (int i = 0; i < text.length() && i < 62; i++) {
            call(TYPE, text.charAt(i), 0, 0);
        }
        for (int what = 0; what < 3; what++) {
            call(18, what, 0, 0);
        }
        call(19, 0, 0, 0);
    }

    private int method() {
        int sum = 0;
        for (int often : OFTEN) {
            sum += often;
        }
        int drawn = random.nextInt(sum);
        int method = 0;
        while (drawn >= OFTEN[method]) {
            drawn -= OFTEN[method];
            method++;
        }
        return method;
    }

    private int value() {
        switch (valueKind) {
            case 0: return random.nextInt(10000);
            case 1: return random.nextInt(4);
            case 2: return random.nextInt(3) == 0 ? 9999 - random.nextInt(5) : random.nextInt(60);
            default: return calls * 19 % 10000;
        }
    }

    private void draw(int method) {
        int digest = random.nextInt(3);
        int odd = ODD[random.nextInt(ODD.length)];
        int other = ODD[random.nextInt(ODD.length)];
        if (random.nextInt(25) == 0) {
            call(method, odd, other, ODD[random.nextInt(ODD.length)]);
            return;
        }
        boolean isOdd = random.nextInt(10) == 0;
        switch (method) {
            case 0: call(method, digest, isOdd ? odd : value(), 1 + random.nextInt(random.nextInt(3) == 0 ? 20 : 2)); break;
            case 2: call(method, digest, random.nextInt(3), 0); break;
            case 4: setting(); break;
            case 5: call(method, digest, random.nextInt(random.nextInt(2) == 0 ? 4 : 40), random.nextInt(7)); break;
            case 6: call(method, digest, random.nextInt(21), 0); break;
            case 7: call(method, digest, random.nextInt(9), 0); break;
            case 10: call(method, digest, random.nextInt(2), 0); break;
            case 11: call(method, digest, isOdd ? odd : value(), 0); break;
            case 8: case 9: case 12: call(method, digest, isOdd ? odd : random.nextInt(1001), 0); break;
            case 13: call(method, digest, 1 + random.nextInt(60), 0); break;
            case 14: call(method, random.nextInt(2) == 0 ? random.nextInt(5) : 19 + random.nextInt(4), 0, 0); break;
            case TYPE: call(method, 30 + random.nextInt(100), 0, 0); break;
            case 18: call(method, random.nextInt(3), 0, 0); break;
            default: call(method, digest, odd, other); break;
        }
    }

    private void setting() {
        int what = random.nextInt(2);
        call(4, what, 1 + random.nextInt(random.nextInt(2) == 0 ? 6 : what == 0 ? 61 : 21), 0);
    }

    private void call(int method, int a, int b, int c) {
        if (calls >= CALLS || Due.wrong() >= 20) {
            calls = CALLS;
            return;
        }
        calls++;
        String told = "run " + run + ", call " + calls + ", " + NAMES[method] + " of " + a + " " + b + " " + c;
        Due.due(told, answer(method, a, b, c), model.call(method, a, b, c));
    }

    private int answer(int method, int a, int b, int c) {
        switch (method) {
            case 0: return x.add(a, b, c);
            case 1: return x.pack(a);
            case 2: return x.join(a, b);
            case 3: return x.clear(a);
            case 4: return x.set(a, b);
            case 5: return x.heapOf(a, b, c);
            case 6: return x.bufferOf(a, b);
            case 7: return x.digestOf(a, b);
            case 8: return x.quantile(a, b);
            case 9: return x.truth(a, b);
            case 10: return x.worst(a, b);
            case 11: return x.rank(a, b);
            case 12: return x.width(a, b);
            case 13: return x.settingFor(a, b);
            case 14: return x.count(a);
            case 15: return x.undo();
            case 16: return x.type(a);
            case 17: return x.clearText();
            case 18: return x.fault(a);
            default: return x.play();
        }
    }
}
