/** 'Texts' of the document's terms. */
final class TextSentences {
    private static final String SECTION = "Texts";
    private static final int NOT_FOUND = QuantileDigests.NOT_FOUND;
    /** 29 values: the most that 60 characters have room for. */
    private static final String LONGEST = "0:1,1,1,1,1,1,1,1,1,1,1,1,1,1,1,1,1,1,1,1,1,1,1,1,1,1,1,1,1;";

    private TextSentences() {
    }

    static void test() {
        length();
        ends();
        colonAndCommas();
        oneValueAtLeast();
        digestDigit();
        valueDigits();
        zeroAhead();
        position();
        form();
        firstReason();
        noSuchDigest();
        tooHeavy();
        partsAhead();
        breaksOff();
        endsTooEarly();
    }

    private static void dueFault(Sentence s, QuantileDigests x, String text, int position, int reason, int cause) {
        Made.write(x, text);
        s.due("position in " + text, x.fault(0), position);
        s.due("reason in " + text, x.fault(1), reason);
        s.due("cause in " + text, x.fault(2), cause);
    }

    private static void dueFault(Sentence s, String text, int position, int reason, int cause) {
        dueFault(s, new QuantileDigests(), text, position, reason, cause);
    }

    private static void dueNoFault(Sentence s, String text) {
        dueFault(s, text, NOT_FOUND, NOT_FOUND, NOT_FOUND);
    }

    private static void length() {
        Sentence s = new Sentence(SECTION, "There is a text of at most 60 characters, initially empty");
        QuantileDigests x = new QuantileDigests();
        s.due("empty at first", x.count(3), 0);
        s.due("nothing to empty", x.clearText(), 0);
        Made.write(x, LONGEST);
        s.due("60 characters", x.count(3), 60);
        s.limit("the 61st", x.type('0'));
        s.due("29 values come of them", x.play(), 29);
    }

    private static void ends() {
        Sentence s = new Sentence(SECTION, "parts, each followed by \";\"");
        dueNoFault(s, "0:1;");
        dueNoFault(s, "0:1;0:1;2:1;");
        dueFault(s, "0:1", 0, 1, 3);
        dueFault(s, "0:1;0:1", 4, 1, 3);
        dueFault(s, "0:1;;0:1;", 4, 1, 0);
        dueFault(s, ";", 0, 1, 0);
        dueFault(s, "0:1 ;", 0, 1, 3);
        dueFault(s, "0:1; 0:1;", 4, 1, 0);
    }

    private static void colonAndCommas() {
        Sentence s = new Sentence(SECTION, "a digest, \":\", and values, with \",\" between two of them");
        dueNoFault(s, "0:1,2;");
        dueFault(s, "0;", 0, 1, 1);
        dueFault(s, "01;", 0, 1, 1);
        dueFault(s, "0::1;", 0, 1, 2);
        dueFault(s, "0,1;", 0, 1, 1);
        dueFault(s, "0:,1;", 0, 1, 2);
        dueFault(s, "0:1,;", 0, 1, 4);
        dueFault(s, "0:1,,2;", 0, 1, 4);
        dueFault(s, "0:1:2;", 0, 1, 3);
    }

    private static void oneValueAtLeast() {
        Sentence s = new Sentence(SECTION, "(at least one)");
        dueNoFault(s, "0:0;");
        dueFault(s, "0:;", 0, 1, 2);
        dueFault(s, "0:1;1:;", 4, 1, 2);
    }

    private static void digestDigit() {
        Sentence s = new Sentence(SECTION, "a digest is one digit");
        dueNoFault(s, "0:1;");
        dueFault(s, ":1;", 0, 1, 0);
        dueFault(s, "00:1;", 0, 1, 1);
        dueFault(s, "-:1;", 0, 1, 0);
        // The characters on either side of the digits, and the last digit.
        dueFault(s, "/:1;", 0, 1, 0);
        dueFault(s, "::1;", 0, 1, 0);
        dueFault(s, "9:1;", 0, 2, NOT_FOUND);
    }

    private static void valueDigits() {
        Sentence s = new Sentence(SECTION, "values have 1 to 4 digits");
        dueNoFault(s, "0:0;");
        dueNoFault(s, "0:9999;");
        dueNoFault(s, "0:9,9999,9,9999;");
        dueFault(s, "0:10000;", 0, 1, 6);
        dueFault(s, "0:1,10000;", 0, 1, 8);
        dueFault(s, "0:-1;", 0, 1, 2);
        dueFault(s, "0:1/;", 0, 1, 3);
        QuantileDigests x = Made.withText("0:9999,9;");
        x.play();
        s.due("the value of four digits", x.bufferOf(0, 0), 9999);
        s.due("the value of one digit", x.bufferOf(0, 1), 9);
    }

    private static void zeroAhead() {
        Sentence s = new Sentence(SECTION, "0 ahead allowed");
        dueNoFault(s, "0:0000;");
        dueFault(s, "0:00000;", 0, 1, 6);
        QuantileDigests x = Made.withText("0:0009,010,00;");
        x.play();
        s.due("0009", x.bufferOf(0, 0), 9);
        s.due("010 is no octal number", x.bufferOf(0, 1), 10);
        s.due("00", x.bufferOf(0, 2), 0);
    }

    private static void position() {
        Sentence s = new Sentence(SECTION,
            "The fault of the text is the position, from 0, of the first character of the first part that is not possible");
        dueFault(s, "x", 0, 1, 0);
        dueFault(s, "0:1;x", 4, 1, 0);
        dueFault(s, "0:1;3:1;0:", 4, 2, NOT_FOUND);
        dueFault(s, "0:1;0:;3:1;", 4, 1, 2);
        dueFault(s, "0:11" + ",1".repeat(27) + ";0", 59, 1, 1);
    }

    private static void form() {
        Sentence s = new Sentence(SECTION, "1 it is not of this form, its \";\" included");
        dueNoFault(s, "2:1,2;");
        dueFault(s, "2:1,2", 0, 1, 5);
        dueFault(s, "2:1,2;2", 6, 1, 1);
    }

    private static void firstReason() {
        Sentence s = new Sentence(SECTION, "its reason is the first of these");
        // Not of the form, ahead of no such digest.
        dueFault(s, "3:1", 0, 1, 3);
        dueFault(s, "9:12345;", 0, 1, 6);
        QuantileDigests x = new QuantileDigests();
        Made.fillTo(x, 0, 200);
        // Not of the form, ahead of a weight above 200.
        dueFault(s, x, "0:1", 0, 1, 3);
        dueFault(s, x, "0:1,;", 0, 1, 4);
        // No such digest, though a later part would be too heavy.
        dueFault(s, x, "3:1;0:1;", 0, 2, NOT_FOUND);
        dueFault(s, x, "0:1;3:1;", 0, 3, NOT_FOUND);
    }

    private static void noSuchDigest() {
        Sentence s = new Sentence(SECTION, "2 there is no such digest");
        dueNoFault(s, "2:1;");
        dueFault(s, "3:1;", 0, 2, NOT_FOUND);
        dueFault(s, "2:1;9:1;", 4, 2, NOT_FOUND);
    }

    private static void tooHeavy() {
        Sentence s = new Sentence(SECTION, "3 the digest would have a weight above 200");
        QuantileDigests x = new QuantileDigests();
        Made.fillTo(x, 1, 198);
        dueFault(s, x, "1:1,2;", NOT_FOUND, NOT_FOUND, NOT_FOUND);
        dueFault(s, x, "1:1,2,3;", 0, 3, NOT_FOUND);
        dueFault(s, x, "0:1,2,3;2:1,2,3;", NOT_FOUND, NOT_FOUND, NOT_FOUND);
    }

    private static void partsAhead() {
        Sentence s = new Sentence(SECTION, "when the parts ahead of it are done");
        QuantileDigests x = new QuantileDigests();
        Made.fillTo(x, 1, 198);
        dueFault(s, x, "1:1;1:2;", NOT_FOUND, NOT_FOUND, NOT_FOUND);
        dueFault(s, x, "1:1;1:2,3;", 4, 3, NOT_FOUND);
        dueFault(s, x, "1:1;0:2,3;2:4,5;1:6;1:7;", 20, 3, NOT_FOUND);
        Made.write(x, "1:1,2;");
        x.play();
        s.due("200 by playing it: its first part is too heavy now", x.fault(0), 0);
    }

    private static void breaksOff() {
        Sentence s = new Sentence(SECTION,
            "The cause of a fault with the reason 1 is at which character of the part, from 0, it breaks off");
        dueFault(s, "a:1;", 0, 1, 0);
        dueFault(s, "0a1;", 0, 1, 1);
        dueFault(s, "0:a;", 0, 1, 2);
        dueFault(s, "0:1a", 0, 1, 3);
        dueFault(s, "0:12a", 0, 1, 4);
        dueFault(s, "0:1234a", 0, 1, 6);
        dueFault(s, "0:1234,a", 0, 1, 7);
        // From 0 in the part, not in the text.
        dueFault(s, "0:1;0:1;0:1,a;", 8, 1, 4);
    }

    private static void endsTooEarly() {
        Sentence s = new Sentence(SECTION, "(of one that the text ends too early it is its length)");
        dueFault(s, "0", 0, 1, 1);
        dueFault(s, "0:", 0, 1, 2);
        dueFault(s, "0:1", 0, 1, 3);
        dueFault(s, "0:1234", 0, 1, 6);
        dueFault(s, "0:1,", 0, 1, 4);
        dueFault(s, "0:1;0:1", 4, 1, 3);
        dueFault(s, LONGEST.substring(0, 59), 0, 1, 59);
        dueFault(s, LONGEST.substring(0, 59) + "1", 0, 1, 60);
    }
}
