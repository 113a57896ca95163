/** Boundary cases of promises 17 to 22: hands, a thief, a new street, mist, flickers. */
public final class EdgeHandTests {
    private static final Edges EDGES = new Edges();
    private static final int BAD = Edges.BAD, NONE = Edges.NONE, LEAST = Edges.LEAST, MOST = Edges.MOST;
    private static final String STAR = "s0 1;s0 2;s0 3;s0 4;s0 5;s0 6;s0 7;s0 8;";
    /** Six lamps, a street between each two: fifteen. */
    private static final String EACH_TWO = "s0 1;s0 2;s0 3;s0 4;s0 5;s1 2;s1 3;s1 4;s1 5;s2 3;s2 4;s2 5;s3 4;s3 5;s4 5;";
    /** Lamp 1 goes on at bell 1, by 0 and 3; lamp 2 at bell 2, by 1 and 0 against 4: then it stands. */
    private static final String TWO_STEPS = "l3 1;l1 0;l1 0;l3 1;l3 0;s0 1;s1 3;s1 2;s2 0;s2 4;";

    public static void main(String[] args) {
        litSomeThatAre();
        litBellsFrom0To60();
        litWhat();
        litFromThatBellOn();
        litNoneTurned();
        litThreeNotFour();
        litHowManySets();
        litFewestAreNotTheFirst();
        litByOneTurnedOff();
        litThoughThreeWereTurned();
        litNone();
        whoBellsFrom0To60();
        whoStandsThatAre();
        whoWhat();
        whoNone();
        whoThreeNotFour();
        whoAllSets();
        whoThoughThreeWereTurned();
        thiefLampsThatAre();
        thiefTheSame();
        thiefFromALitLamp();
        thiefByFog();
        thiefNone();
        thiefLongWay();
        stillWhat();
        stillFirstPair();
        stillLastPair();
        stillNoPair();
        stillNotByAPairInFog();
        stillBesideFifteen();
        stillNone();
        mistStandsThatAre();
        mistNoneAndAll();
        mistNotThoseInFog();
        mistJustTheNextBell();
        flickersLampsThatAre();
        flickersBellsFrom0To60();
        flickersOfSeveralTheLeast();
        flickersNoLamps();
        asksChangeNothing();
        asksTellNothingToTheNext();
        EDGES.end();
    }

    private static void of(String promise, String words) {
        EDGES.of(promise, words);
    }

    private static void due(String call, long got, long want) {
        EDGES.due(call, got, want);
    }

    private static FewerLamps turnedThrice(String text) {
        FewerLamps x = Edges.told(text);
        x.turn(0);
        x.turn(1);
        x.turn(2);
        return x;
    }

    // ---- promise 17

    private static void litSomeThatAre() {
        of("17", "some LAMPS (bits, one at least)");
        FewerLamps x = Edges.told("l3 1;".repeat(9));
        due("one", x.lit(1, 0, 0), 0);
        due("the ninth", x.lit(256, 0, 0), 0);
        due("all", x.lit(511, 0, 0), 0);
        due("of one lamp, 1", Edges.told("l3 1;").lit(1, 0, 0), 0);
        due("of one lamp, 2", Edges.told("l3 1;").lit(2, 0, 0), BAD);
        for (int some : new int[] {0, -1, 512, 513, LEAST, MOST}) {
            EDGES.refused("lit(" + some + ", 0, 0)", Edges::busy, y -> y.lit(some, 0, 0), BAD);
        }
    }

    private static void litBellsFrom0To60() {
        of("17", "a BELL k (0 .. 60)");
        FewerLamps x = Edges.told(Edges.NINE);
        due("k 0", x.lit(5, 0, 2), 5);
        due("k 60", x.lit(5, 60, 2), 5);
        for (int k : new int[] {-1, 61, LEAST, MOST}) {
            EDGES.refused("lit(1, " + k + ", 0)", Edges::busy, y -> y.lit(1, k, 0), BAD);
        }
    }

    private static void litWhat() {
        of("17", "how many in a set (what = 0), how many sets (1), the least (2)");
        FewerLamps x = Edges.told(TWO_STEPS);
        due("in a set", x.lit(4, 1, 0), 1);
        due("sets", x.lit(4, 1, 1), 2);
        due("the least", x.lit(4, 1, 2), 2);
        for (int what : new int[] {-1, 3, LEAST, MOST}) {
            EDGES.refused("lit(1, 0, " + what + ")", Edges::busy, y -> y.lit(1, 0, what), BAD);
        }
    }

    private static void litFromThatBellOn() {
        of("17", "behind k BELLS and behind all later ones");
        FewerLamps x = Edges.told(TWO_STEPS);
        due("from bell 2 on", x.lit(4, 2, 0), 0);
        due("from bell 1 on: one more", x.lit(4, 1, 0), 1);
        due("from bell 0 on: two more", x.lit(4, 0, 0), 2);
        due("by two sets", x.lit(4, 0, 1), 2);
        due("the least of them", x.lit(4, 0, 2), 6);
        // Lamp 8 is lit now and for 45 bells, then it is dark: far behind bell 0, but not for ever.
        FewerLamps y = Edges.told("l0 0;l0 0;l1 1;l1 1;l2 0;l1 1;l0 1;l0 0;l0 1;"
            + "s1 0;s1 7;s7 3;s8 1;s4 7;s2 1;s4 6;s3 6;s2 3;s5 0;s8 0;");
        for (int b = 0; b <= 45; b++) {
            due("lit behind " + b, y.after(b) >> 8, 1);
        }
        due("dark behind 46", y.after(46) >> 8, 0);
        due("not for ever", y.lit(256, 0, 0) == 0 ? 1 : 0, 0);
    }

    private static void litNoneTurned() {
        of("17", "sets of 0 LAMPS");
        FewerLamps x = Edges.told("l3 0;l3 1;");
        due("in a set", x.lit(2, 0, 0), 0);
        due("sets", x.lit(2, 0, 1), 1);
        due("the least", x.lit(2, 0, 2), 0);
    }

    private static void litThreeNotFour() {
        of("17", "sets of 0 to 3 LAMPS");
        FewerLamps x = Edges.told(Edges.NINE);
        due("one", x.lit(256, 0, 0), 1);
        due("two", x.lit(384, 0, 0), 2);
        due("three", x.lit(448, 0, 0), 3);
        due("those three", x.lit(448, 60, 2), 448);
        due("four", x.lit(480, 0, 0), NONE);
        due("nine", x.lit(511, 0, 0), NONE);
    }

    /** Lamp 0 needs five of eight, two are lit: any three of six; or it is turned itself and keeps a tie, by any two of six. */
    private static void litHowManySets() {
        of("17", "of the fewest: how many such sets, the least set");
        FewerLamps x = Edges.told("l1 0;l3 1;l3 1;l3 0;l3 0;l3 0;l3 0;l3 0;l3 0;" + STAR);
        due("in a set", x.lit(1, 1, 0), 3);
        due("sets", x.lit(1, 1, 1), 20 + 15);
        due("the least", x.lit(1, 1, 2), 25);
        due("from bell 0 on, sets", x.lit(1, 0, 1), 15);
        due("with two of them: fewer sets", x.lit(1 + 8, 1, 1), 10 + 5);
    }

    /** Lamps 0 and 1, each with a tie of 2 and 3: both by hand, or 2 alone, which is a greater number but a smaller set. */
    private static void litFewestAreNotTheFirst() {
        of("17", "of the fewest, whichever set is the least number");
        FewerLamps x = Edges.told("l0 0;l0 0;l3 1;l3 0;s0 2;s0 3;s1 2;s1 3;");
        due("in a set", x.lit(3, 1, 0), 1);
        due("sets", x.lit(3, 1, 1), 1);
        due("the least", x.lit(3, 1, 2), 4);
        due("from bell 0 on", x.lit(3, 0, 0), 2);
        due("by both", x.lit(3, 0, 2), 3);
    }

    private static void litByOneTurnedOff() {
        of("17", "TURNED: not, if it was ON");
        FewerLamps x = Edges.told("l0 0;l3 1;s0 1;");
        due("in a set", x.lit(1, 1, 0), 1);
        due("sets", x.lit(1, 1, 1), 1);
        due("the lit one", x.lit(1, 1, 2), 2);
        due("from bell 0 on: both", x.lit(1, 0, 2), 3);
    }

    private static void litThoughThreeWereTurned() {
        of("17", "sets of 0 to 3 LAMPS, however often it may be TURNED yet");
        FewerLamps x = turnedThrice(Edges.NINE);
        due("three more", x.lit(56, 0, 2), 56);
        due("four more", x.lit(120, 0, 2), NONE);
    }

    private static void litNone() {
        of("17", "NONE");
        FewerLamps x = Edges.told("l2 1;l3 0;");
        for (int what = 0; what < 3; what++) {
            due("never for ever, what " + what, x.lit(1, 0, what), NONE);
            due("nor from bell 60 on, what " + what, x.lit(1, 60, what), NONE);
            due("nor both, what " + what, x.lit(3, 0, what), NONE);
        }
        due("the other one", x.lit(2, 0, 0), 1);
    }

    // ---- promise 18

    private static void whoBellsFrom0To60() {
        of("18", "behind n (0 .. 60) BELLS");
        FewerLamps x = Edges.told("l2 0;");
        due("n 0", x.who(0, 1, 1), 1);
        due("n 59", x.who(59, 1, 1), 0);
        due("n 60", x.who(60, 1, 1), 1);
        for (int n : new int[] {-1, 61, LEAST, MOST}) {
            EDGES.refused("who(" + n + ", 0, 0)", Edges::busy, y -> y.who(n, 0, 0), BAD);
        }
    }

    private static void whoStandsThatAre() {
        of("18", "a told STAND; BAD");
        FewerLamps x = Edges.told("l3 1;".repeat(9));
        due("who(0, 511, 1)", x.who(0, 511, 1), 0);
        due("who(0, 504, 1)", x.who(0, 504, 1), 7);
        due("of one lamp, 1", Edges.told("l3 0;").who(0, 1, 1), 1);
        due("of one lamp, 2", Edges.told("l3 0;").who(0, 2, 1), BAD);
        due("stand 0", Edges.told(Edges.NINE).who(0, 0, 1), 0);
        for (int stand : new int[] {-1, 512, 513, LEAST, MOST}) {
            EDGES.refused("who(0, " + stand + ", 0)", Edges::busy, y -> y.who(0, stand, 0), BAD);
            EDGES.refused("who(60, " + stand + ", 1)", Edges::busy, y -> y.who(60, stand, 1), BAD);
        }
    }

    private static void whoWhat() {
        of("18", "how many (what = 0), the least (1)");
        FewerLamps x = Edges.told("l3 0;l0 0;s0 1;");
        due("how many", x.who(1, 1, 0), 2);
        due("the least", x.who(1, 1, 1), 1);
        for (int what : new int[] {-1, 2, LEAST, MOST}) {
            EDGES.refused("who(0, 0, " + what + ")", Edges::busy, y -> y.who(0, 0, what), BAD);
        }
    }

    private static void whoNone() {
        of("18", "how many: 0; the least: NONE");
        FewerLamps x = Edges.told("l3 0;l0 0;s0 1;");
        due("how many", x.who(1, 3, 0), 0);
        due("the least", x.who(1, 3, 1), NONE);
        due("behind no bell, how many", x.who(0, 3, 0), 1);
        due("behind no bell, the least", x.who(0, 3, 1), 3);
    }

    private static void whoThreeNotFour() {
        of("18", "sets of 0 to 3 LAMPS");
        FewerLamps x = Edges.told(Edges.NINE);
        due("none", x.who(60, 0, 0), 1);
        due("none is the least", x.who(60, 0, 1), 0);
        due("three", x.who(0, 448, 1), 448);
        due("four, how many", x.who(0, 480, 0), 0);
        due("four, the least", x.who(0, 480, 1), NONE);
    }

    /** Of six lit lamps of MORE, all neighbours: two dark ones go on again, three and three change places, four make all dark. */
    private static void whoAllSets() {
        of("18", "how many: sets of 0, 1, 2 and 3");
        FewerLamps x = Edges.told("l1 1;".repeat(6) + EACH_TWO);
        due("none, one or two", x.who(1, 63, 0), 1 + 6 + 15);
        due("the least", x.who(1, 63, 1), 0);
        due("three", x.who(1, 7, 0), 1);
        due("those three", x.who(1, 7, 1), 7);
        due("four would make", x.who(1, 0, 0), 0);
    }

    private static void whoThoughThreeWereTurned() {
        of("18", "sets of 0 to 3 LAMPS, however often it may be TURNED yet");
        FewerLamps x = turnedThrice(Edges.NINE);
        due("the three again", x.who(0, 0, 1), 7);
    }

    // ---- promise 19

    private static void thiefLampsThatAre() {
        of("19", "from a LAMP to another one; BAD");
        FewerLamps x = Edges.told(Edges.NINE + STAR);
        due("thief(0, 8)", x.thief(0, 8), 1);
        due("thief(8, 0)", x.thief(8, 0), 1);
        for (int l : new int[] {-1, 9, 31, 32, LEAST, MOST}) {
            EDGES.refused("thief(" + l + ", 0)", Edges::busy, y -> y.thief(l, 0), BAD);
            EDGES.refused("thief(0, " + l + ")", Edges::busy, y -> y.thief(0, l), BAD);
            EDGES.refused("thief(" + l + ", " + l + ")", Edges::busy, y -> y.thief(l, l), BAD);
        }
    }

    private static void thiefTheSame() {
        of("19", "to another one (or the same): 0 BELLS");
        FewerLamps x = Edges.told("l2 0;l2 1;");
        due("dark now", x.thief(0, 0), 0);
        due("lit now", x.thief(1, 1), NONE);
        x.bell();
        due("lit by then", x.thief(0, 0), NONE);
        due("dark by then", x.thief(1, 1), 0);
    }

    private static void thiefFromALitLamp() {
        of("19", "NOW, and behind each BELL, he is at a LAMP that is not ON");
        FewerLamps x = Edges.told("l3 0;l2 1;l2 0;l3 1;s0 1;s0 2;s0 3;s1 2;");
        due("from a lit one", x.thief(1, 0), NONE);
        due("to one that is dark behind the bell", x.thief(0, 1), 1);
        due("to one that is lit behind the bell", x.thief(0, 2), 2);
        due("to one that stays lit", x.thief(0, 3), NONE);
        due("from one that goes on to one that goes off", x.thief(2, 1), 1);
        due("out of one that goes on", x.thief(2, 0), 1);
    }

    private static void thiefByFog() {
        of("19", "he stays or goes a STREET (in FOG, too)");
        FewerLamps x = Edges.told("l3 0;l3 0;l3 0;s0 1;s1 2;");
        x.fog(0, 1);
        x.fog(1, 1);
        due("two streets", x.thief(0, 2), 2);
        due("and back", x.thief(2, 0), 2);
    }

    private static void thiefNone() {
        of("19", "NONE");
        due("no street", Edges.told("l3 0;l3 0;").thief(0, 1), NONE);
        due("a lit lamp between", Edges.told("l3 0;l3 1;l3 0;s0 1;s1 2;").thief(0, 2), NONE);
        due("never both dark in turn", Edges.told("l3 0;l2 0;l2 0;l3 1;s0 1;s1 2;").thief(0, 3), NONE);
        due("two that are dark at once", Edges.told("l3 0;l2 0;l2 0;s0 1;s1 2;").thief(0, 2), NONE);
        due("one that changes, one that doesn't", Edges.told("l3 0;l2 0;l3 0;s0 1;s1 2;").thief(0, 2), 3);
    }

    private static void thiefLongWay() {
        of("19", "the fewest BELLS (0 .. 99)");
        FewerLamps x = Edges.told(Edges.NINE + "s0 1;s1 2;s2 3;s3 4;s4 5;s5 6;s6 7;s7 8;");
        for (int l = 0; l < 9; l++) {
            due("a street a bell", x.thief(0, l), l);
        }
        // No town is known in which he needs more: he waits at lamp 8, which is dark for ever, for a way that opens seldom.
        FewerLamps y = Edges.told("l0 0;l0 1;l2 1;l1 0;l0 1;l1 1;l1 0;l0 0;l3 0;"
            + "s7 6;s4 1;s2 6;s0 3;s4 2;s1 7;s1 5;s4 6;s7 4;s0 2;s0 5;s3 8;");
        y.fog(10, 1);
        y.fog(11, 1);
        for (int b = 0; b <= 77; b++) {
            due("behind bell " + b, y.thief(8, 7), 88 - b);
            y.bell();
        }
        due("just missed", y.thief(8, 7), 88);
    }

    // ---- promise 20

    private static void stillWhat() {
        of("20", "the pair (what = 0), BELLS (1)");
        FewerLamps x = Edges.told("l0 0;l0 0;l3 0;l3 1;s0 1;");
        due("the pair", x.still(0), 2);
        due("BELLS", x.still(1), 2);
        for (int what : new int[] {-1, 2, LEAST, MOST}) {
            EDGES.refused("still(" + what + ")", Edges::busy, y -> y.still(what), BAD);
        }
    }

    private static void stillFirstPair() {
        of("20", "the first pair (10 times the lesser and the other one)");
        FewerLamps x = Edges.told("l3 0;l3 0;l3 0;");
        due("0 and 1", x.still(0), 1);
        due("behind none", x.still(1), 0);
        due("not 0 and 1, which has one", Edges.told("l3 0;l3 0;l3 0;s1 0;").still(0), 2);
        due("1 and 2", Edges.told("l3 0;l3 0;l3 0;s1 0;s2 0;").still(0), 12);
    }

    private static void stillLastPair() {
        of("20", "the first pair: the last there is");
        FewerLamps x = Edges.told("l1 1;l1 1;l1 1;l0 1;l0 1;l0 0;l0 1;l0 1;l0 0;s2 7;s4 7;s1 5;s2 3;s0 4;s1 8;s1 4;s2 5;s0 7;");
        due("7 and 8", x.still(0), 78);
        due("behind how many", x.still(1), 7);
    }

    private static void stillNoPair() {
        of("20", "a pair without a STREET between them: none is");
        due("no lamps", new FewerLamps().still(0), NONE);
        due("one lamp", Edges.told("l3 0;").still(0), NONE);
        due("one lamp, BELLS", Edges.told("l3 0;").still(1), NONE);
        due("six lamps, each two", Edges.told("l3 0;".repeat(6) + EACH_TWO).still(0), NONE);
        due("a seventh", Edges.told("l3 0;".repeat(7) + EACH_TWO).still(0), 6);
    }

    private static void stillNotByAPairInFog() {
        of("20", "without a STREET between them: a street in FOG is one; the new one is not in FOG");
        FewerLamps x = Edges.told("l3 0;l3 0;s0 1;");
        x.fog(0, 1);
        due("the only pair", x.still(0), NONE);
        // Two that change for ever, unless a dark one that never changes is a neighbour of one: FOG on streets is no help.
        FewerLamps y = Edges.told("l0 0;l0 0;l3 0;l3 0;s0 1;s0 2;");
        y.fog(1, 1);
        due("another pair", y.still(0), 3);
    }

    private static void stillBesideFifteen() {
        of("20", "a STREET that would be, though there are 15");
        FewerLamps x = Edges.told(Edges.NINE + STAR + "s1 2;s1 3;s1 4;s1 5;s1 6;s1 7;s1 8;");
        due("fifteen", x.count(1), 15);
        due("the pair", x.still(0), 23);
    }

    private static void stillNone() {
        of("20", "NONE");
        FewerLamps x = Edges.told("l2 0;l3 0;l3 0;");
        due("one that always changes", x.still(0), NONE);
        due("BELLS", x.still(1), NONE);
    }

    // ---- promise 21

    private static void mistStandsThatAre() {
        of("21", "a told STAND; BAD (bits of none)");
        due("mist(0)", Edges.told(Edges.NINE + STAR).mist(0), 255);
        due("mist(511)", Edges.told("l3 1;".repeat(9) + STAR).mist(511), 255);
        due("of two lamps, 3", Edges.told("l3 1;l3 1;s0 1;").mist(3), 1);
        due("of two lamps, 4", Edges.told("l3 1;l3 1;s0 1;").mist(4), BAD);
        for (int stand : new int[] {-1, 512, 513, LEAST, MOST}) {
            EDGES.refused("mist(" + stand + ")", Edges::busy, y -> y.mist(stand), BAD);
        }
    }

    private static void mistNoneAndAll() {
        of("21", "STREETS (bits): none, all");
        FewerLamps x = Edges.told(Edges.NINE + STAR + "s1 2;s1 3;s1 4;s1 5;s1 6;s1 7;s1 8;");
        due("all fifteen", x.mist(0), 32767);
        due("none", x.mist(1), 0);
        due("no streets", Edges.told(Edges.NINE).mist(0), 0);
        due("no lamps", new FewerLamps().mist(0), 0);
        // Lamp 0 goes on by 1 and 2 against 3: any fog but that on 3 makes a tie of it.
        FewerLamps y = Edges.told("l1 0;l3 1;l3 1;l3 0;s0 1;s0 2;s0 3;");
        due("the last alone", y.mist(7), 4);
        due("but the last", y.mist(6), 3);
    }

    private static void mistNotThoseInFog() {
        of("21", "those in FOG now are none of them");
        FewerLamps x = Edges.told(Edges.NINE + STAR + "s1 2;s1 3;s1 4;s1 5;s1 6;s1 7;s1 8;");
        int clear = 32767;
        for (int s = 14; s >= 0; s--) {
            x.fog(s, 1);
            clear &= ~(1 << s);
            due("FOG on " + s + ", too", x.mist(0), clear);
        }
        due("all in FOG", x.mist(0), 0);
    }

    private static void mistJustTheNextBell() {
        of("21", "in FOG for just the next BELL");
        FewerLamps x = Edges.told("l0 0;l3 0;s0 1;");
        due("it stays dark", x.mist(0), 1);
        due("without it, lit", x.mist(1), 0);
        due("no FOG is", x.now(3), 0);
        due("bells as ever", x.after(1), 1);
        due("bell()", x.bell(), 1);
    }

    // ---- promise 22

    private static void flickersLampsThatAre() {
        of("22", "a LAMP (l = -1: the LAMP that does most); BAD");
        FewerLamps x = Edges.told("l2 0;" + "l3 0;".repeat(7) + "l2 1;");
        due("flickers(0, 5)", x.flickers(0, 5), 5);
        due("flickers(8, 5)", x.flickers(8, 5), 5);
        due("flickers(-1, 5)", x.flickers(-1, 5), 0);
        for (int l : new int[] {-2, 9, LEAST, MOST}) {
            EDGES.refused("flickers(" + l + ", 5)", Edges::busy, y -> y.flickers(l, 5), BAD);
        }
    }

    private static void flickersBellsFrom0To60() {
        of("22", "in n (0 .. 60) BELLS");
        FewerLamps x = Edges.told("l2 0;l3 0;l0 0;s1 2;");
        due("in none", x.flickers(0, 0), 0);
        due("in one", x.flickers(0, 1), 1);
        due("in 60", x.flickers(0, 60), 60);
        due("never", x.flickers(1, 60), 0);
        due("once", x.flickers(2, 60), 1);
        for (int n : new int[] {-1, 61, LEAST, MOST}) {
            EDGES.refused("flickers(0, " + n + ")", Edges::busy, y -> y.flickers(0, n), BAD);
            EDGES.refused("flickers(-1, " + n + ")", Edges::busy, y -> y.flickers(-1, n), BAD);
        }
    }

    private static void flickersOfSeveralTheLeast() {
        of("22", "the LAMP that does most, of several the least");
        due("none flickers", Edges.told(Edges.NINE).flickers(-1, 60), 0);
        due("in no bell", Edges.told("l3 0;l2 0;").flickers(-1, 0), 0);
        due("the last alone", Edges.told("l3 0;".repeat(8) + "l2 0;").flickers(-1, 1), 8);
        due("two do most", Edges.told("l3 0;l0 0;l2 0;l2 1;s0 1;").flickers(-1, 60), 2);
        due("three as often, in one bell", Edges.told("l3 0;l0 0;l2 0;l2 1;s0 1;").flickers(-1, 1), 1);
    }

    private static void flickersNoLamps() {
        of("22", "NONE: there are none; BAD");
        due("in no bell", new FewerLamps().flickers(-1, 0), NONE);
        due("in 60", new FewerLamps().flickers(-1, 60), NONE);
        due("in 61", new FewerLamps().flickers(-1, 61), BAD);
        due("in -1", new FewerLamps().flickers(-1, -1), BAD);
        due("lamp 0", new FewerLamps().flickers(0, 0), BAD);
    }

    private static void asksChangeNothing() {
        of("17 to 22", "nothing is changed");
        EDGES.asked("lit(511, 60, 0)", Edges::busy, y -> y.lit(511, 60, 0), Edges.busy().lit(511, 60, 0));
        EDGES.asked("lit(1, 0, 2)", Edges::busy, y -> y.lit(1, 0, 2), Edges.busy().lit(1, 0, 2));
        EDGES.asked("who(60, 0, 0)", Edges::busy, y -> y.who(60, 0, 0), Edges.busy().who(60, 0, 0));
        EDGES.asked("thief(3, 0)", Edges::busy, y -> y.thief(3, 0), Edges.busy().thief(3, 0));
        EDGES.asked("still(0)", Edges::busy, y -> y.still(0), Edges.busy().still(0));
        EDGES.asked("still(1)", Edges::busy, y -> y.still(1), Edges.busy().still(1));
        EDGES.asked("mist(0)", Edges::busy, y -> y.mist(0), Edges.busy().mist(0));
        EDGES.asked("flickers(-1, 60)", Edges::busy, y -> y.flickers(-1, 60), Edges.busy().flickers(-1, 60));
        EDGES.asked("flickers(8, 60)", Edges::busy, y -> y.flickers(8, 60), Edges.busy().flickers(8, 60));
    }

    /** What is answered hangs on NOW alone, not on what was asked ahead, though FOG is then as it was only thought of. */
    private static void asksTellNothingToTheNext() {
        of("20, 21", "from NOW on, FOG as it is");
        for (int s = 0; s < 2; s++) {
            String text = "l0 0;l0 0;l3 0;l3 0;s0 1;s0 2;";
            FewerLamps x = Edges.told(text);
            FewerLamps y = Edges.told(text);
            x.mist(0);
            x.still(0);
            x.mist(3);
            due("fog", x.fog(s, 1), y.fog(s, 1));
            due("still(0) behind mist", x.still(0), y.still(0));
            due("still(1) behind mist", x.still(1), y.still(1));
            due("mist behind still", x.mist(x.after(1)), y.mist(y.after(1)));
            due("bell()", x.bell(), y.bell());
        }
        // Lamp 0 is alone in the fog, but goes on at the first bell by the new street.
        FewerLamps z = Edges.told("l1 0;l3 0;l3 1;s0 1;");
        due("mist(4)", z.mist(4), 1);
        due("fog(0, 1)", z.fog(0, 1), 1);
        due("still(1)", z.still(1), 1);
        due("still(0)", z.still(0), 2);
    }
}
