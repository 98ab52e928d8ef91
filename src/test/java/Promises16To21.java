/** Promises 16 to 21: numbers, undo and texts. */
final class Promises16To21 {
    private Promises16To21() {
    }

    static void test() {
        countWeight();
        countHeaps();
        countStates();
        countText();
        countSettings();
        countInvalid();
        undo();
        undoReturns();
        undoEmpty();
        type();
        typeCharacter();
        typeReturns();
        typeInvalid();
        typeLimit();
        clearText();
        clearTextReturns();
        faultPosition();
        faultReason();
        faultCause();
        faultInvalid();
        faultNotFound();
        play();
        playStays();
        playOneChange();
        playReturns();
        playFault();
    }

    private static void countWeight() {
        Sentence s = new Sentence("Promise 16", "0: the weight of all digests;");
        QuantileDigests x = new QuantileDigests();
        s.due("none", x.count(0), 0);
        x.add(0, 1, 7);
        x.add(1, 1, 1);
        x.add(2, 1, 20);
        s.due("heaps and buffers of all three", x.count(0), 28);
        Made.fillTo(x, 0, 193);
        Made.fillTo(x, 1, 199);
        Made.fillTo(x, 2, 180);
        s.due("all are full", x.count(0), 600);
    }

    private static void countHeaps() {
        Sentence s = new Sentence("Promise 16", "1: heaps of all digests;");
        QuantileDigests x = new QuantileDigests();
        x.add(0, 1, 5);
        x.add(1, 1, 5);
        x.add(2, 1, 5);
        s.due("buffers have none", x.count(1), 0);
        x.pack(0);
        s.due("of the first one", x.count(1), 5);
        x.pack(1);
        x.pack(2);
        s.due("of all three", x.count(1), 15);
    }

    private static void countStates() {
        Sentence s = new Sentence("Promise 16", "2: states in the history;");
        QuantileDigests x = new QuantileDigests();
        s.due("none", x.count(2), 0);
        for (int change = 1; change <= 6; change++) {
            x.set(0, change);
            s.due("after change " + change, x.count(2), Math.min(change, 4));
        }
        x.undo();
        s.due("one less", x.count(2), 3);
    }

    private static void countText() {
        Sentence s = new Sentence("Promise 16", "3: the length of the text;");
        QuantileDigests x = new QuantileDigests();
        s.due("none", x.count(3), 0);
        Made.write(x, " ".repeat(61));
        s.due("60 of 61", x.count(3), 60);
    }

    private static void countSettings() {
        Sentence s = new Sentence("Promise 16", "20 and 21: the settings 0 and 1");
        QuantileDigests x = new QuantileDigests();
        s.due("0 at first", x.count(20), 10);
        s.due("1 at first", x.count(21), 5);
        x.set(0, 60);
        x.set(1, 20);
        s.due("0 at most", x.count(20), 60);
        s.due("1 at most", x.count(21), 20);
    }

    private static void countInvalid() {
        Sentence s = new Sentence("Promise 16", "INVALID_ARGUMENT if what is out of range.");
        QuantileDigests x = Made.holding(1);
        s.range("count, the former range", 0, 3, what -> x.count(what));
        s.range("count, the latter range", 20, 21, what -> x.count(what));
        for (int what = 4; what < 20; what++) {
            s.invalid("count between the ranges, " + what, x.count(what));
        }
    }

    private static void undo() {
        Sentence s = new Sentence("Promise 17", "Restores the latest state of the history, which is removed from it.");
        QuantileDigests x = Made.holding(5, 6);
        x.undo();
        s.due("the latest one", x.digestOf(0, 0), 1);
        x.undo();
        s.due("the one ahead of it", x.digestOf(0, 0), 0);
        s.due("both are removed", x.count(2), 0);
        x.add(0, 7, 1);
        x.undo();
        x.add(0, 8, 1);
        s.due("what was undone does not come back", x.bufferOf(0, 0), 8);
        s.notFound("not behind it either", x.bufferOf(0, 1));
        s.due("nor as a true one", x.truth(0, 0), 8);
        x.undo();
        s.due("nor as a weight", x.digestOf(0, 0), 0);
    }

    private static void undoReturns() {
        Sentence s = new Sentence("Promise 17", "Returns the number of states that are left in the history;");
        QuantileDigests x = new QuantileDigests();
        for (int change = 0; change < 5; change++) {
            x.pack(0);
        }
        for (int left = 3; left >= 0; left--) {
            s.due("left", x.undo(), left);
        }
    }

    private static void undoEmpty() {
        Sentence s = new Sentence("Promise 17", "NOT_POSSIBLE if it is empty.");
        QuantileDigests x = new QuantileDigests();
        s.notPossible("at first", x.undo());
        x.add(0, 5, 1);
        x.undo();
        s.notPossible("when all are removed", x.undo());
        x.add(0, 5, 1);
        s.due("it goes on then", x.undo(), 0);
    }

    private static void type() {
        Sentence s = new Sentence("Promise 18", "Appends a character to the text.");
        QuantileDigests x = Made.withText("0:1");
        x.type('2');
        x.type(';');
        x.play();
        s.due("behind those that are there", x.bufferOf(0, 0), 12);
    }

    private static void typeCharacter() {
        Sentence s = new Sentence("Promise 18", "`character`: 32 to 126");
        s.range("type", 32, 126, character -> new QuantileDigests().type(character));
        QuantileDigests x = new QuantileDigests();
        s.due("32 is one", x.type(32), 1);
        s.due("and no part", x.fault(2), 0);
        s.due("126 is one", x.type(126), 2);
    }

    private static void typeReturns() {
        Sentence s = new Sentence("Promise 18", "Returns the length of the text;");
        QuantileDigests x = new QuantileDigests();
        for (int length = 1; length <= 60; length++) {
            s.due("length", x.type('0'), length);
        }
    }

    private static void typeInvalid() {
        Sentence s = new Sentence("Promise 18", "INVALID_ARGUMENT if character is out of range;");
        QuantileDigests x = Made.withText("0".repeat(60));
        s.invalid("31 at a full text", x.type(31));
        s.invalid("127 at a full text", x.type(127));
        x.clearText();
        s.invalid("31", x.type(31));
        s.invalid("127", x.type(127));
        s.invalid("the character 0 with a bit above", x.type('0' + 65536));
        s.due("none came", x.count(3), 0);
    }

    private static void typeLimit() {
        Sentence s = new Sentence("Promise 18", "LIMIT_REACHED if it has 60 characters.");
        QuantileDigests x = Made.withText("0".repeat(59));
        s.due("the 60th", x.type('0'), 60);
        s.limit("the 61st", x.type('0'));
        s.limit("again", x.type('0'));
        s.due("60 stay", x.clearText(), 60);
        s.due("an empty text has room", x.type('0'), 1);
    }

    private static void clearText() {
        Sentence s = new Sentence("Promise 19", "`int clearText()`: Empties the text.");
        QuantileDigests x = Made.withText("0:5;x");
        x.clearText();
        s.due("its length", x.count(3), 0);
        s.notFound("its fault", x.fault(0));
        s.due("no value comes of it", x.play(), 0);
    }

    private static void clearTextReturns() {
        Sentence s = new Sentence("Promise 19", "Returns the length it had.");
        QuantileDigests x = new QuantileDigests();
        s.due("empty", x.clearText(), 0);
        Made.write(x, "0".repeat(60));
        s.due("full", x.clearText(), 60);
        s.due("empty again", x.clearText(), 0);
    }

    private static void faultPosition() {
        Sentence s = new Sentence("Promise 20", "0: its position;");
        s.due("of the first part", Made.withText(";").fault(0), 0);
        s.due("of the second part", Made.withText("0:1;;").fault(0), 4);
    }

    private static void faultReason() {
        Sentence s = new Sentence("Promise 20", "1: its reason;");
        s.due("form", Made.withText("3:1").fault(1), 1);
        s.due("digest", Made.withText("3:1;").fault(1), 2);
        QuantileDigests full = Made.withText("2:1;");
        Made.fillTo(full, 2, 199);
        s.notFound("199 and 1", full.fault(1));
        full.add(2, 1, 1);
        s.due("weight", full.fault(1), 3);
    }

    private static void faultCause() {
        Sentence s = new Sentence("Promise 20", "2: its cause");
        s.due("the first character", Made.withText("0:1;x").fault(2), 0);
        s.due("the length", Made.withText("0:1;0:1").fault(2), 3);
    }

    private static void faultInvalid() {
        Sentence s = new Sentence("Promise 20", "INVALID_ARGUMENT if what is out of range;");
        QuantileDigests x = Made.withText("x");
        s.range("fault", 0, 2, what -> x.fault(what));
        s.invalid("3 without a fault", new QuantileDigests().fault(3));
        s.invalid("-1 without a fault", new QuantileDigests().fault(-1));
    }

    private static void faultNotFound() {
        Sentence s = new Sentence("Promise 20",
            "NOT_FOUND if the text has no fault (also if it is empty), for 2 if the reason is not 1.");
        QuantileDigests x = new QuantileDigests();
        for (int what = 0; what <= 2; what++) {
            s.notFound("empty, " + what, x.fault(what));
            s.notFound("no fault, " + what, Made.withText("0:1;2:9999;").fault(what));
        }
        s.due("reason 1 has a cause", Made.withText("3:1").fault(2), 3);
        s.notFound("reason 2 has none", Made.withText("3:1;").fault(2));
        Made.write(x, "0:1;");
        Made.fillTo(x, 0, 200);
        s.notFound("reason 3 has none", x.fault(2));
        s.due("but a position", x.fault(0), 0);
        x.clearText();
        s.notFound("emptied it has none", x.fault(0));
    }

    private static void play() {
        Sentence s = new Sentence("Promise 21", "Lets all values of the text come into their digests;");
        QuantileDigests x = Made.withText("0:6,5,4,3,2,1;1:7;0:8;2:9999;");
        x.play();
        s.due("digest 0 is packed by its sixth value", x.digestOf(0, 8), 1);
        s.due("the sixth", x.bufferOf(0, 0), 1);
        s.due("the last part's", x.bufferOf(0, 1), 8);
        s.due("digest 1", x.bufferOf(1, 0), 7);
        s.due("digest 2", x.bufferOf(2, 0), 9999);
        s.due("true ones, too", x.truth(0, 1000), 8);
    }

    private static void playStays() {
        Sentence s = new Sentence("Promise 21", "it stays.");
        QuantileDigests x = Made.withText("0:6;");
        x.play();
        s.due("its length", x.count(3), 4);
        s.due("it can be played again", x.play(), 2);
        x.type('x');
        s.due("and goes on where it was", x.fault(0), 4);
    }

    private static void playOneChange() {
        Sentence s = new Sentence("Promise 21", "They are one change, also if there are none.");
        QuantileDigests x = new QuantileDigests();
        x.play();
        s.due("none", x.count(2), 1);
        Made.write(x, "0:1,2,3;1:4;0:5;");
        x.play();
        s.due("five", x.count(2), 2);
        s.due("undo", x.undo(), 1);
        s.due("takes all back", x.count(0), 0);
        s.due("undo of none", x.undo(), 0);
    }

    private static void playReturns() {
        Sentence s = new Sentence("Promise 21", "Returns the weight of all digests then;");
        QuantileDigests x = new QuantileDigests();
        s.due("none", x.play(), 0);
        Made.fillTo(x, 0, 199);
        Made.fillTo(x, 1, 200);
        Made.fillTo(x, 2, 199);
        s.due("no text", x.play(), 598);
        Made.write(x, "0:1;2:1;");
        s.due("to the greatest weight", x.play(), 600);
    }

    private static void playFault() {
        Sentence s = new Sentence("Promise 21", "NOT_POSSIBLE if it has a fault.");
        QuantileDigests x = Made.withText("0:1;0");
        s.notPossible("form", x.play());
        s.due("not even the first part came", x.count(0), 0);
        s.due("no change", x.count(2), 0);
        Made.write(x, "0:1;3:1;");
        s.notPossible("digest", x.play());
        Made.fillTo(x, 1, 199);
        Made.write(x, "0:1;1:1,2;");
        s.notPossible("weight", x.play());
        s.due("nothing of it came", x.count(0), 199);
        Made.write(x, "0:1;1:1;");
        s.due("just 200 is no fault", x.play(), 201);
    }
}
