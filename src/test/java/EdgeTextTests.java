/** Boundary cases of promises 1 to 4: a new object, THE TEXT, and what it may tell. */
public final class EdgeTextTests {
    private static final Edges EDGES = new Edges();
    private static final int BAD = Edges.BAD, STATE = Edges.STATE, FULL = Edges.FULL, NONE = Edges.NONE, NO = Edges.NO;
    private static final String FIFTEEN = Edges.NINE
        + "s0 1;s0 2;s0 3;s0 4;s0 5;s0 6;s0 7;s0 8;s1 2;s1 3;s1 4;s1 5;s1 6;s1 7;s1 8;";

    public static void main(String[] args) {
        constants();
        newObjectIsEmpty();
        newObjectHasOneStand();
        newObjectRefuses();
        bytesFrom0To255();
        refusedByteDoesNotCome();
        textOf200Bytes();
        badAheadOfFull();
        roomAgain();
        clearEmptyAndFull();
        clearTakesTheBytes();
        emptyTextTellsNoLamps();
        wholeTextIsRead();
        nineLamps();
        rulesFrom0To3();
        onIs0Or1();
        fifteenStreets();
        firstEndOfAStreet();
        secondEndOfAStreet();
        unlikeEnds();
        noTwoBetweenTheSame();
        lampsToldAhead();
        blanksAre32();
        lettersFromAToZ();
        numbersFrom0To9();
        lettersThatBeginNoItem();
        tokensOutOfPlace();
        numbersAbove99();
        zeroAheadOfOthers();
        endsTooEarly();
        firstFaultCounts();
        faultChangesNothing();
        faultyTextMayGoOn();
        readAnew();
        readAnewBellsOfTheNew();
        EDGES.end();
    }

    private static void of(String promise, String words) {
        EDGES.of(promise, words);
    }

    private static void due(String call, long got, long want) {
        EDGES.due(call, got, want);
    }

    /** A text that is taken: so many items, and no text is left. */
    private static FewerLamps good(String text, int items) {
        FewerLamps x = Edges.typed(text);
        due("[" + text + "] town()", x.town(), items);
        due("[" + text + "] is empty then", x.count(3), 0);
        return x;
    }

    /** A text with its fault at a place: nothing changes, the text neither. */
    private static void fault(String text, int place) {
        EDGES.refused("[" + text + "] town()", () -> Edges.typed(text), FewerLamps::town, -10 - place);
    }

    // ---- promise 1

    private static void constants() {
        of("1", "the constants and their values");
        due("BAD", FewerLamps.BAD, -1);
        due("STATE", FewerLamps.STATE, -2);
        due("FULL", FewerLamps.FULL, -3);
        due("NONE", FewerLamps.NONE, -9);
        due("NO", FewerLamps.NO, -1000000);
    }

    private static void newObjectIsEmpty() {
        of("1", "as told; no LAMPS");
        FewerLamps x = new FewerLamps();
        for (int what = 0; what < 4; what++) {
            due("count(" + what + ")", x.count(what), 0);
            due("now(" + what + ")", x.now(what), 0);
        }
        due("now(4)", x.now(4), 3);
        due("trace()", x.trace(), 0);
        due("clear()", x.clear(), 0);
        due("town()", x.town(), 0);
    }

    private static void newObjectHasOneStand() {
        of("1", "no LAMPS: the one STAND is 0");
        FewerLamps x = new FewerLamps();
        due("after(0)", x.after(0), 0);
        due("after(600)", x.after(600), 0);
        due("round(0)", x.round(0), 0);
        due("round(1)", x.round(1), 1);
        due("again()", x.again(), 1);
        due("ahead(0, 0)", x.ahead(0, 0), 1);
        due("ahead(0, 1)", x.ahead(0, 1), 0);
        due("ahead(1, 0)", x.ahead(1, 0), BAD);
        due("eden()", x.eden(), 0);
        due("lit(0, 0, 0)", x.lit(0, 0, 0), BAD);
        due("lit(1, 0, 0)", x.lit(1, 0, 0), BAD);
        due("who(0, 0, 0)", x.who(0, 0, 0), 1);
        due("who(60, 0, 1)", x.who(60, 0, 1), 0);
        due("who(0, 1, 0)", x.who(0, 1, 0), BAD);
        due("still(0)", x.still(0), NONE);
        due("still(1)", x.still(1), NONE);
        due("mist(0)", x.mist(0), 0);
        due("mist(1)", x.mist(1), BAD);
        due("flickers(-1, 60)", x.flickers(-1, 60), NONE);
        due("bell()", x.bell(), 0);
        due("now(0)", x.now(0), 1);
        due("undo()", x.undo(), 0);
    }

    private static void newObjectRefuses() {
        of("1", "no LAMPS: there is no such thing");
        EDGES.refused("lamp(0, 0)", FewerLamps::new, x -> x.lamp(0, 0), BAD);
        EDGES.refused("street(0, 0)", FewerLamps::new, x -> x.street(0, 0), BAD);
        EDGES.refused("turn(0)", FewerLamps::new, x -> x.turn(0), BAD);
        EDGES.refused("fog(0, 1)", FewerLamps::new, x -> x.fog(0, 1), BAD);
        EDGES.refused("fog(0, 0)", FewerLamps::new, x -> x.fog(0, 0), BAD);
        EDGES.refused("undo()", FewerLamps::new, x -> x.undo(), STATE);
        EDGES.refused("thief(0, 0)", FewerLamps::new, x -> x.thief(0, 0), BAD);
        EDGES.refused("flickers(0, 0)", FewerLamps::new, x -> x.flickers(0, 0), BAD);
        EDGES.refused("mark(0, 0)", FewerLamps::new, x -> x.mark(0, 0), NO);
        EDGES.refused("back(0)", FewerLamps::new, x -> x.back(0), STATE);
        EDGES.refused("back(1)", FewerLamps::new, x -> x.back(1), STATE);
    }

    // ---- promises 2 and 3

    private static void bytesFrom0To255() {
        of("2", "a byte is 0 .. 255");
        FewerLamps x = new FewerLamps();
        due("type(0)", x.type(0), 1);
        due("type(255)", x.type(255), 2);
        for (int c : new int[] {-1, 256, Edges.LEAST, Edges.MOST}) {
            EDGES.refused("type(" + c + ")", Edges::busy, y -> y.type(c), BAD);
        }
    }

    private static void refusedByteDoesNotCome() {
        of("2", "what is BAD does not come to THE TEXT");
        FewerLamps x = Edges.typed("l0 1");
        due("type(256 + ';')", x.type(256 + ';'), BAD);
        due("town()", x.town(), -14);
        due("type(';')", x.type(';'), 5);
        due("town()", x.town(), 1);
    }

    private static void textOf200Bytes() {
        of("2", "200 bytes at most; FULL");
        FewerLamps x = Edges.typed(" ".repeat(199));
        due("the 200th", x.type(' '), 200);
        due("the 201st", x.type(' '), FULL);
        EDGES.refused("the 201st, of a good text", () -> Edges.typed(" ".repeat(195) + "l0 1;"), y -> y.type(';'), FULL);
        EDGES.refused("the 201st, again", () -> Edges.typed("l0 1;" + " ".repeat(195)), y -> y.type('x') + y.type(0), 2 * FULL);
    }

    private static void badAheadOfFull() {
        of("2", "refused, the first of these: BAD, then FULL");
        EDGES.refused("type(256) of a full text", () -> Edges.typed(" ".repeat(200)), y -> y.type(256), BAD);
        EDGES.refused("type(-1) of a full text", () -> Edges.typed(" ".repeat(200)), y -> y.type(-1), BAD);
    }

    private static void roomAgain() {
        of("2", "FULL only as long as there are 200");
        FewerLamps x = Edges.typed(" ".repeat(200));
        x.clear();
        due("behind clear()", x.type('x'), 1);
        FewerLamps y = Edges.typed(" ".repeat(200));
        due("town()", y.town(), 0);
        due("behind town()", y.type('x'), 1);
        FewerLamps z = Edges.typed("x".repeat(200));
        due("town()", z.town(), -10);
        due("behind a fault", z.type('x'), FULL);
    }

    private static void clearEmptyAndFull() {
        of("3", "how many bytes it had");
        FewerLamps x = new FewerLamps();
        due("of none", x.clear(), 0);
        x.type(0);
        due("of one", x.clear(), 1);
        Check.write(x, " ".repeat(200));
        due("of 200", x.clear(), 200);
        due("of none again", x.clear(), 0);
    }

    private static void clearTakesTheBytes() {
        of("3", "THE TEXT is empty");
        FewerLamps x = Edges.busy();
        due("clear()", x.clear(), 15);
        due("count(3)", x.count(3), 0);
        due("the town stays", x.count(0), 9);
        due("the bells stay", x.now(0), 3);
        Check.write(x, "l0 1;");
        due("what is typed then is all", x.town(), 1);
    }

    // ---- promise 4

    private static void emptyTextTellsNoLamps() {
        of("4", "an empty text tells no ITEM");
        good("", 0);
        good(" ", 0);
        good(" ".repeat(200), 0);
        FewerLamps x = Edges.busy();
        x.clear();
        due("town()", x.town(), 0);
        due("no lamps", x.count(0), 0);
        due("no streets", x.count(1), 0);
        due("nothing is on", x.now(1), 0);
        due("no bell", x.now(0), 0);
        due("no fog", x.now(3), 0);
    }

    private static void wholeTextIsRead() {
        of("4", "a text of 200 bytes; -10 less FAULT");
        good(" ".repeat(195) + "l0 1;", 1);
        good("l0 1;" + " ".repeat(195), 1);
        fault(" ".repeat(199) + "x", 199);
        fault(" ".repeat(196) + "l0 1", 200);
        fault("x" + " ".repeat(199), 0);
        fault("x".repeat(200), 0);
        fault("l" + "9".repeat(199), 1);
    }

    private static void nineLamps() {
        of("4", "9 LAMPS at most; a tenth lamp");
        due("nine", good(Edges.NINE, 9).count(0), 9);
        fault(Edges.NINE + "l0 0;", 45);
        fault(Edges.NINE + "l", 45);
        fault(Edges.NINE + "   l0 0;", 48);
        fault(Edges.NINE + "l4 0;", 45);
        fault(Edges.NINE + "s0 1;l0 0;", 50);
        fault("l3 0;".repeat(8) + "l4 0;", 41);
    }

    private static void rulesFrom0To3() {
        of("4", "a RULE is 0 .. 3");
        for (int rule = 0; rule < 4; rule++) {
            due("rule " + rule, good("l" + rule + " 0;", 1).lamp(0, 0), rule);
        }
        fault("l4 0;", 1);
        fault("l9 0;", 1);
        fault("l10 0;", 1);
        fault("l 4 0;", 2);
        fault("l0 0;l4 0;", 6);
    }

    private static void onIs0Or1() {
        of("4", "ON (1) or not (0)");
        due("0", good("l0 0;", 1).lamp(0, 1), 0);
        due("1", good("l0 1;", 1).lamp(0, 1), 1);
        due("the ninth", good("l0 0;".repeat(8) + "l0 1;", 9).now(1), 256);
        due("all", good("l0 1;".repeat(9), 9).now(1), 511);
        fault("l0 2;", 3);
        fault("l0 10;", 3);
        fault("l0  9;", 4);
    }

    private static void fifteenStreets() {
        of("4", "15 STREETS at most; a sixteenth street");
        due("fifteen", good(FIFTEEN, 24).count(1), 15);
        fault(FIFTEEN + "s2 3;", 120);
        fault(FIFTEEN + "s", 120);
        fault(FIFTEEN + " s2 3;", 121);
        fault(FIFTEEN + "s0 1;", 120);
        fault(FIFTEEN.substring(0, 115) + "s1 7;", 118);
    }

    private static void firstEndOfAStreet() {
        of("4", "A of a street is a LAMP");
        due("the last of nine", good(Edges.NINE + "s8 0;", 10).street(0, 1), 8);
        fault(Edges.NINE + "s9 0;", 46);
        due("the last of two", good("l0 0;l0 0;s1 0;", 3).street(0, 1), 1);
        fault("l0 0;l0 0;s2 0;", 11);
        fault("s0 1;", 1);
        fault("s0", 1);
        fault("l0 0;s1 0;", 6);
    }

    private static void secondEndOfAStreet() {
        of("4", "B of a street is a LAMP");
        due("the last of nine", good(Edges.NINE + "s0 8;", 10).street(0, 1), 8);
        fault(Edges.NINE + "s0 9;", 48);
        due("the last of two", good("l0 0;l0 0;s0 1;", 3).street(0, 1), 1);
        fault("l0 0;l0 0;s0 2;", 13);
        fault("l0 0;s0 1;", 8);
    }

    private static void unlikeEnds() {
        of("4", "B that is A");
        fault("l0 0;s0 0;", 8);
        fault(Edges.NINE + "s8 8;", 48);
        fault(Edges.NINE + "s 8  8 ;", 50);
    }

    private static void noTwoBetweenTheSame() {
        of("4", "B between which and A there is a STREET");
        good("l0 0;l0 0;l0 0;s0 1;s0 2;s2 1;", 6);
        fault("l0 0;l0 0;l0 0;s0 1;s0 1;", 23);
        fault("l0 0;l0 0;l0 0;s0 1;s1 0;", 23);
        fault("l0 0;l0 0;l0 0;s1 0;s2 0;s1 2;s0 1;", 33);
        fault(Edges.NINE + "s8 7;s7 8;", 53);
    }

    private static void lampsToldAhead() {
        of("4", "a street between LAMPS told ahead");
        good("l0 0;l0 0;s0 1;l0 0;s2 0;", 5);
        fault("l0 0;s0 1;l0 0;", 8);
        fault("l0 0;s1 0;l0 0;", 6);
        fault("s0 1;l0 0;l0 0;", 1);
    }

    private static void blanksAre32() {
        of("4", "blanks (32) between TOKENS");
        good("  l  0   1  ;  ", 1);
        good("l0 1;l 0 0 ; s 1 0 ; ", 3);
        for (int c : new int[] {0, 9, 10, 13, 31, 33, 127, 128, 160, 255}) {
            fault("l0" + (char) c + "1;", 2);
            fault("l0 1;" + (char) c, 5);
            fault((char) c + "l0 1;", 0);
        }
    }

    private static void lettersFromAToZ() {
        of("4", "letters a .. z side by side");
        fault("la0 0;", 0);
        fault("lz0 0;", 0);
        fault("l`0 0;", 1);
        fault("l{0 0;", 1);
        fault("lA0 0;", 1);
        fault("lZ0 0;", 1);
        fault("l l0 0;", 2);
    }

    private static void numbersFrom0To9() {
        of("4", "NUMBERS of the signs 0 .. 9");
        fault("l0/0;", 2);
        fault("l0:0;", 2);
        fault("l0 0/;", 4);
        fault("l0 0:", 4);
        fault("l0 09;", 3);
        fault("l0 00;", 3);
        fault("l-1 0;", 1);
        fault("l+1 0;", 1);
        fault("l0.0;", 2);
    }

    private static void lettersThatBeginNoItem() {
        of("4", "letters that begin no ITEM");
        for (String letters : new String[] {"a", "z", "k", "m", "r", "t", "ll", "ls", "sl", "ss", "lamp", "la", "al"}) {
            fault(letters + "0 0;", 0);
            fault("l0 0; " + letters + "0 0;", 6);
        }
    }

    private static void tokensOutOfPlace() {
        of("4", "the first TOKEN that can't stand there");
        fault(";", 0);
        fault("0", 0);
        fault("99", 0);
        fault("l0 1;;", 5);
        fault("l0 1;0", 5);
        fault("l;", 1);
        fault("ls", 0);
        fault("l s0 0;", 2);
        fault("l0;", 2);
        fault("l0 l;", 3);
        fault("l0 1 1;", 5);
        fault("l0 1l0 1;", 4);
        fault("l0 0;s;", 6);
        fault("l0 0;s0;", 7);
        fault("l0 0;l0 0;s0 1 1;", 15);
        fault("l0 0;l0 0;s0 1s", 14);
        fault("l ab 0;", 2);
        fault("l0 ab;", 3);
        fault("l0 0;l0 0;s ab 0;", 12);
        fault("l0 0;l0 0;s0 ab;", 13);
        fault("l0 0ab", 4);
    }

    private static void numbersAbove99() {
        of("4", "a NUMBER above 99, that TOKEN's");
        String[] numbers = {"99", "100", "101", "999", "256", "65536", "4294967296", "4294967297", "18446744073709551616",
            "18446744073709551617", "1" + "0".repeat(40)};
        for (String n : numbers) {
            fault("l" + n + " 0;", 1);
            fault("l0 " + n + ";", 3);
            fault("l0 0;l0 0;s" + n + " 0;", 11);
            fault("l0 0;l0 0;s0 " + n + ";", 13);
            fault("l0 0" + " " + n, 5);
            fault(n, 0);
        }
    }

    private static void zeroAheadOfOthers() {
        of("4", "a NUMBER with a 0 ahead of others");
        good("l0 0;l1 0;s0 1;", 3);
        fault("l00 0;", 1);
        fault("l01 0;", 1);
        fault("l0 01;", 3);
        fault("l0 000;", 3);
        fault("l0 0;l0 0;s00 1;", 11);
        fault("l0 0;l0 0;s0 01;", 13);
        fault("00", 0);
    }

    private static void endsTooEarly() {
        of("4", "the text's length, if it ends too early");
        String[] parts = {"l", "l0", "l0 ", "l0 1", "l0 0;l0 0;s", "l0 0;l0 0;s0", "l0 0;l0 0;s0 1", "l0 0;l"};
        for (String part : parts) {
            fault(part, part.length());
            fault(part + "   ", part.length() + 3);
        }
        good("l0 0;", 1);
        good("l0 0;   ", 1);
    }

    private static void firstFaultCounts() {
        of("4", "FAULT: of the first TOKEN");
        fault("l4 0;#", 1);
        fault("l0 0;#l4 0;", 5);
        fault("l0 2;l4 0;100", 3);
        fault("l0 0;s0 0", 8);
        fault("l0 0;s0 00", 8);
        fault("l0 0;x 100 #", 5);
        fault("l4", 1);
    }

    private static void faultChangesNothing() {
        of("4", "-10 less FAULT: nothing changes");
        EDGES.refused("a fault behind good ITEMS", () -> {
            FewerLamps x = Edges.busy();
            x.type('x');
            return x;
        }, FewerLamps::town, -25);
        EDGES.refused("a text that ends too early", () -> {
            FewerLamps x = Edges.busy();
            x.type('l');
            return x;
        }, FewerLamps::town, -26);
    }

    private static void faultyTextMayGoOn() {
        of("4", "-10 less FAULT: THE TEXT stays");
        FewerLamps x = Edges.typed("l0 1;l1 0");
        due("too early", x.town(), -19);
        due("count(3)", x.count(3), 9);
        due("type(';')", x.type(';'), 10);
        due("town()", x.town(), 2);
    }

    private static void readAnew() {
        of("4", "read anew: as told, BELL 0, no FOG, nothing to be UNDONE, IMAGES are gone");
        FewerLamps x = Edges.busy();
        long trace = x.trace();
        due("three ITEMS", x.town(), 3);
        due("lamps", x.count(0), 2);
        due("streets", x.count(1), 1);
        due("as told", x.now(1), 1);
        due("BELL 0", x.now(0), 0);
        due("no FOG", x.now(3), 0);
        due("TURNED three times yet", x.now(4), 3);
        due("nothing UNDONE", x.count(2), 0);
        due("undo()", x.undo(), STATE);
        due("IMAGE 0", x.back(0), STATE);
        due("IMAGE 1", x.back(1), STATE);
        due("the text", x.count(3), 0);
        due("the trace stays", x.trace(), trace);
        due("the old lamps are gone", x.lamp(2, 0), BAD);
        due("the old streets are gone", x.street(1, 0), BAD);
        due("a street lost is none", x.lamp(0, 2), 1);
        due("keep(1)", x.keep(1), 0);
        due("just that image", x.back(0), STATE);
    }

    /** What was asked of a town tells nothing of the next one, though it stands as the first did. */
    private static void readAnewBellsOfTheNew() {
        of("4", "THE TEXT tells all");
        FewerLamps x = Edges.told("l0 0;l3 0;l3 1;s0 1;");
        due("a bell", x.after(1), 5);
        due("one pair stills", x.still(1), 0);
        due("in mist", x.mist(4), 1);
        Check.write(x, "l1 0;l2 0;l3 1;s0 2;");
        due("town()", x.town(), 4);
        due("in another mist", x.mist(6), 1);
        due("not in that one", x.mist(4), 0);
        due("another bell", x.after(1), 7);
        due("no pair stills", x.still(0), NONE);
        due("bell()", x.bell(), 7);
    }
}
