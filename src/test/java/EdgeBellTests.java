/** Boundary cases of promises 5 to 11: lamps, streets, bells, hands, fog, what is undone, NOW. */
public final class EdgeBellTests {
    private static final Edges EDGES = new Edges();
    private static final int BAD = Edges.BAD, STATE = Edges.STATE, LEAST = Edges.LEAST, MOST = Edges.MOST;
    /** A star: lamp 0 in the midst of eight. */
    private static final String STAR = "s0 1;s0 2;s0 3;s0 4;s0 5;s0 6;s0 7;s0 8;";

    public static void main(String[] args) {
        lampsThatAre();
        lampsWhat();
        lampsNeighbours();
        lampInFogHasNoNeighbours();
        streetsThatAre();
        streetsWhat();
        streetsLesserLamp();
        bellNoNeighbours();
        bellAsMany();
        bellOneFewerOneMore();
        bellEightNeighbours();
        bellOtherAndNever();
        bellAllAtOnce();
        bellTieByFog();
        bells999();
        bellUndoneAt999();
        turnLampsThatAre();
        turnNeverToo();
        turnThreeTimes();
        turnBadAheadOfState();
        turnAgainBehindABell();
        turnFogGivesNoneBack();
        turnUndoneGivesOneBack();
        turnWithAnImage();
        fogStreetsThatAre();
        fogIs0Or1();
        fogIsSo();
        fogBadAheadOfState();
        fogOnAll();
        undoNone();
        undoTen();
        undoEleven();
        undoEachSort();
        undoAndOn();
        undoRefusedOnesAreNone();
        nowWhat();
        nowLeastAndMost();
        EDGES.end();
    }

    private static void of(String promise, String words) {
        EDGES.of(promise, words);
    }

    private static void due(String call, long got, long want) {
        EDGES.due(call, got, want);
    }

    // ---- promises 5 and 6

    private static void lampsThatAre() {
        of("5", "a LAMP; BAD: there is no such thing");
        FewerLamps x = Edges.busy();
        due("lamp(0, 0)", x.lamp(0, 0), 0);
        due("lamp(8, 0)", x.lamp(8, 0), 3);
        for (int l : new int[] {-1, 9, LEAST, MOST}) {
            for (int what = 0; what < 5; what++) {
                int asked = what;
                EDGES.refused("lamp(" + l + ", " + what + ")", Edges::busy, y -> y.lamp(l, asked), BAD);
            }
        }
        due("of one lamp, 0", Edges.told("l1 0;").lamp(0, 0), 1);
        due("of one lamp, 1", Edges.told("l1 0;").lamp(1, 0), BAD);
    }

    private static void lampsWhat() {
        of("5", "what is 0 .. 4");
        FewerLamps x = Edges.told(Edges.WHOLE_TOWN);
        due("lamp(0, 0)", x.lamp(0, 0), 0);
        due("lamp(0, 1)", x.lamp(0, 1), 1);
        due("lamp(0, 2)", x.lamp(0, 2), 4);
        due("lamp(0, 3)", x.lamp(0, 3), 2);
        due("lamp(0, 4)", x.lamp(0, 4), 2);
        for (int what : new int[] {-1, 5, LEAST, MOST}) {
            EDGES.refused("lamp(0, " + what + ")", Edges::busy, y -> y.lamp(0, what), BAD);
            EDGES.refused("lamp(9, " + what + ")", Edges::busy, y -> y.lamp(9, what), BAD);
        }
    }

    private static void lampsNeighbours() {
        of("5", "how many STREETS, how many NEIGHBOURS are ON, how many are not: none, and all");
        FewerLamps alone = Edges.told("l0 1;l0 1;");
        FewerLamps dark = Edges.told(Edges.NINE + STAR);
        FewerLamps lit = Edges.told("l3 1;".repeat(9) + STAR);
        int[][] want = {{0, 0, 0}, {8, 0, 8}, {8, 8, 0}};
        for (int what = 2; what < 5; what++) {
            due("alone, " + what, alone.lamp(0, what), want[0][what - 2]);
            due("eight dark ones, " + what, dark.lamp(0, what), want[1][what - 2]);
            due("eight lit ones, " + what, lit.lamp(0, what), want[2][what - 2]);
        }
    }

    private static void lampInFogHasNoNeighbours() {
        of("5", "NEIGHBOURS are those to which a STREET leads that is not in FOG");
        FewerLamps x = Edges.told("l3 1;".repeat(9) + STAR);
        for (int s = 0; s < 8; s++) {
            x.fog(s, 1);
            due("streets", x.lamp(0, 2), 8);
            due("on", x.lamp(0, 3), 7 - s);
            due("of the other one", x.lamp(s + 1, 3), 0);
        }
        due("not on", x.lamp(0, 4), 0);
        x.fog(7, 0);
        due("fog goes", x.lamp(8, 3), 1);
    }

    private static void streetsThatAre() {
        of("6", "a STREET; BAD: there is no such thing");
        FewerLamps x = Edges.busy();
        due("street(0, 1)", x.street(0, 1), 1);
        due("street(14, 1)", x.street(14, 1), 5);
        for (int s : new int[] {-1, 15, LEAST, MOST}) {
            for (int what = 0; what < 3; what++) {
                int asked = what;
                EDGES.refused("street(" + s + ", " + what + ")", Edges::busy, y -> y.street(s, asked), BAD);
            }
        }
        due("of one street, 0", Edges.told("l1 0;l0 0;s0 1;").street(0, 1), 1);
        due("of one street, 1", Edges.told("l1 0;l0 0;s0 1;").street(1, 1), BAD);
        due("of none, 0", Edges.told("l1 0;l0 0;").street(0, 0), BAD);
    }

    private static void streetsWhat() {
        of("6", "what is 0 .. 2");
        FewerLamps x = Edges.busy();
        due("street(14, 0)", x.street(14, 0), 0);
        due("street(14, 2)", x.street(14, 2), 1);
        due("street(3, 2)", x.street(3, 2), 0);
        for (int what : new int[] {-1, 3, LEAST, MOST}) {
            EDGES.refused("street(0, " + what + ")", Edges::busy, y -> y.street(0, what), BAD);
            EDGES.refused("street(15, " + what + ")", Edges::busy, y -> y.street(15, what), BAD);
        }
    }

    private static void streetsLesserLamp() {
        of("6", "0 the lesser LAMP, 1 the other one");
        FewerLamps x = Edges.told(Edges.NINE + "s8 0;s0 1;s7 8;");
        int[][] want = {{0, 8}, {0, 1}, {7, 8}};
        for (int s = 0; s < 3; s++) {
            due("lesser of " + s, x.street(s, 0), want[s][0]);
            due("other of " + s, x.street(s, 1), want[s][1]);
        }
    }

    // ---- promise 7

    private static void bellNoNeighbours() {
        of("7", "if as many (or none), as it was: none");
        due("all rules, on", Edges.told("l0 1;l1 1;l2 1;l3 1;").bell(), 11);
        due("all rules, not on", Edges.told("l0 0;l1 0;l2 0;l3 0;").bell(), 4);
    }

    private static void bellAsMany() {
        of("7", "if as many (or none), as it was: one of two, four of eight");
        for (int rule = 0; rule < 2; rule++) {
            for (int on = 0; on < 2; on++) {
                String lamp = "l" + rule + " " + on + ";";
                due(lamp + " one of two", Edges.told(lamp + "l3 0;l3 1;s0 1;s0 2;").bell(), 4 + on);
                String eight = lamp + "l3 1;".repeat(4) + "l3 0;".repeat(4);
                due(lamp + " four of eight", Edges.told(eight + STAR).bell(), 30 + on);
            }
        }
    }

    private static void bellOneFewerOneMore() {
        of("7", "FEWER, MORE: fewer of them ON than are not, or more, by one");
        String streets = "s0 1;s0 2;s0 3;";
        for (int on = 0; on < 2; on++) {
            due("FEWER, 1 and 2", Edges.told("l0 " + on + ";l3 1;l3 0;l3 0;" + streets).bell(), 3);
            due("FEWER, 2 and 1", Edges.told("l0 " + on + ";l3 1;l3 1;l3 0;" + streets).bell(), 6);
            due("MORE, 1 and 2", Edges.told("l1 " + on + ";l3 1;l3 0;l3 0;" + streets).bell(), 2);
            due("MORE, 2 and 1", Edges.told("l1 " + on + ";l3 1;l3 1;l3 0;" + streets).bell(), 7);
        }
    }

    private static void bellEightNeighbours() {
        of("7", "FEWER, MORE: none of eight ON, all of eight");
        for (int on = 0; on < 2; on++) {
            due("FEWER, none", Edges.told("l0 " + on + ";" + "l3 0;".repeat(8) + STAR).bell(), 1);
            due("FEWER, all", Edges.told("l0 " + on + ";" + "l3 1;".repeat(8) + STAR).bell(), 510);
            due("MORE, none", Edges.told("l1 " + on + ";" + "l3 0;".repeat(8) + STAR).bell(), 0);
            due("MORE, all", Edges.told("l1 " + on + ";" + "l3 1;".repeat(8) + STAR).bell(), 511);
        }
    }

    private static void bellOtherAndNever() {
        of("7", "OTHER: on, if it was not, and not, if it was; NEVER: as it was");
        for (int around = 0; around < 2; around++) {
            String eight = ("l3 " + around + ";").repeat(8);
            int lit = around * 510;
            due("OTHER, not on", Edges.told("l2 0;" + eight + STAR).bell(), lit + 1);
            due("OTHER, on", Edges.told("l2 1;" + eight + STAR).bell(), lit);
            due("NEVER, not on", Edges.told("l3 0;" + eight + STAR).bell(), lit);
            due("NEVER, on", Edges.told("l3 1;" + eight + STAR).bell(), lit + 1);
        }
    }

    private static void bellAllAtOnce() {
        of("7", "all LAMPS at once");
        due("two FEWER, dark", Edges.told("l0 0;l0 0;s0 1;").bell(), 3);
        due("two FEWER, lit", Edges.told("l0 1;l0 1;s0 1;").bell(), 0);
        due("two MORE change", Edges.told("l1 1;l1 0;s0 1;").bell(), 2);
    }

    private static void bellTieByFog() {
        of("7", "NEIGHBOURS are those by a STREET that is not in FOG");
        FewerLamps x = Edges.told("l0 0;l3 0;l3 0;l3 1;s0 1;s0 2;s0 3;");
        x.fog(1, 1);
        due("a tie", x.bell(), 8);
        x.fog(1, 0);
        due("fewer", x.bell(), 9);
        x.fog(0, 1);
        x.fog(1, 1);
        due("more", x.bell(), 8);
        x.fog(2, 1);
        due("none", x.bell(), 8);
    }

    /** More calls than the document binds (512): no run can ring so often, but the program keeps to it there, too. */
    private static void bells999() {
        of("7", "BELLS: 0 at first, 999 at most; STATE: 999 were");
        FewerLamps x = Edges.told("l2 0;");
        due("at first", x.now(0), 0);
        for (int b = 1; b <= 999; b++) {
            due("bell " + b, x.bell(), b % 2);
            due("now(0)", x.now(0), b);
        }
        due("no more", x.bell(), STATE);
        EDGES.refused("no more", () -> Edges.belled("l2 0;l0 1;s0 1;", 999), y -> y.bell(), STATE);
    }

    private static void bellUndoneAt999() {
        of("7", "STATE: 999 were, not 998");
        FewerLamps x = Edges.belled("l2 0;", 999);
        due("undo()", x.undo(), 9);
        due("now(0)", x.now(0), 998);
        due("bell()", x.bell(), 1);
        due("bell()", x.bell(), STATE);
        due("turn(0)", x.turn(0), 0);
        due("after(600) goes on", x.after(600), 0);
    }

    // ---- promise 8

    private static void turnLampsThatAre() {
        of("8", "a LAMP; BAD: there is no such thing");
        FewerLamps x = Edges.told(Edges.NINE);
        due("turn(0)", x.turn(0), 1);
        due("turn(8)", x.turn(8), 257);
        due("turn(8)", x.turn(8), 1);
        for (int l : new int[] {-1, 9, 31, 32, LEAST, MOST}) {
            EDGES.refused("turn(" + l + ")", Edges::busy, y -> y.turn(l), BAD);
        }
    }

    private static void turnNeverToo() {
        of("8", "a LAMP (NEVER ones, too) is ON, if it was not, and not, if it was");
        for (int rule = 0; rule < 4; rule++) {
            due("rule " + rule + ", not on", Edges.told("l" + rule + " 0;").turn(0), 1);
            due("rule " + rule + ", on", Edges.told("l" + rule + " 1;").turn(0), 0);
        }
    }

    private static FewerLamps turnedThrice() {
        FewerLamps x = Edges.busy();
        x.turn(5);
        x.turn(6);
        return x;
    }

    private static void turnThreeTimes() {
        of("8", "3 times at most between two BELLS; STATE: three were");
        FewerLamps x = Edges.told("l0 0;l0 0;");
        for (int left = 2; left >= 0; left--) {
            due("turn(0)", x.turn(0), left % 2 == 0 ? 1 : 0);
            due("now(4)", x.now(4), left);
        }
        due("a fourth", x.turn(0), STATE);
        due("of another one", x.turn(1), STATE);
        EDGES.refused("a fourth in the midst", EdgeBellTests::turnedThrice, y -> y.turn(0), STATE);
    }

    private static void turnBadAheadOfState() {
        of("8", "refused, the first of these: BAD, then STATE");
        EDGES.refused("turn(9)", EdgeBellTests::turnedThrice, y -> y.turn(9), BAD);
        EDGES.refused("turn(-1)", EdgeBellTests::turnedThrice, y -> y.turn(-1), BAD);
    }

    private static void turnAgainBehindABell() {
        of("8", "3 times between two BELLS: behind a bell three more");
        FewerLamps x = turnedThrice();
        x.bell();
        due("now(4)", x.now(4), 3);
        for (int i = 0; i < 3; i++) {
            due("once more", x.turn(3) >> 3 & 1, 1 - i % 2);
        }
        due("a fourth", x.turn(3), STATE);
        due("that bell undone", x.undo() + x.undo() + x.undo() + x.undo(), 9 + 8 + 7 + 6);
        due("three were there", x.turn(3), STATE);
    }

    private static void turnFogGivesNoneBack() {
        of("8", "3 times between two BELLS, whatever else is done");
        FewerLamps x = turnedThrice();
        x.fog(0, 1);
        due("behind FOG", x.turn(0), STATE);
        x.fog(0, 0);
        due("behind FOG that goes", x.turn(0), STATE);
        x.keep(0);
        due("behind keep", x.turn(0), STATE);
    }

    private static void turnUndoneGivesOneBack() {
        of("8", "three were: one UNDONE was not");
        FewerLamps x = turnedThrice();
        x.undo();
        due("now(4)", x.now(4), 1);
        x.turn(1);
        due("a fourth", x.turn(1), STATE);
    }

    private static void turnWithAnImage() {
        of("8", "IMAGES keep how often it may be TURNED yet");
        FewerLamps x = turnedThrice();
        due("back(0)", x.back(0), 1);
        due("now(4)", x.now(4), 2);
        x.turn(1);
        x.turn(1);
        due("a fourth", x.turn(1), STATE);
    }

    // ---- promise 9

    private static void fogStreetsThatAre() {
        of("9", "a STREET; BAD: there is no such thing");
        FewerLamps x = Edges.told(Edges.WHOLE_TOWN);
        due("fog(0, 1)", x.fog(0, 1), 1);
        due("fog(14, 1)", x.fog(14, 1), 2);
        for (int s : new int[] {-1, 15, 31, 32, LEAST, MOST}) {
            EDGES.refused("fog(" + s + ", 1)", Edges::busy, y -> y.fog(s, 1), BAD);
            EDGES.refused("fog(" + s + ", 0)", Edges::busy, y -> y.fog(s, 0), BAD);
        }
    }

    private static void fogIs0Or1() {
        of("9", "FOG comes (is = 1) or goes (0)");
        FewerLamps x = Edges.told(Edges.WHOLE_TOWN);
        due("comes", x.fog(7, 1), 1);
        due("is there", x.now(3), 128);
        due("goes", x.fog(7, 0), 0);
        due("is gone", x.now(3), 0);
        for (int is : new int[] {-1, 2, LEAST, MOST}) {
            EDGES.refused("fog(0, " + is + ")", Edges::busy, y -> y.fog(0, is), BAD);
            EDGES.refused("fog(14, " + is + ")", Edges::busy, y -> y.fog(14, is), BAD);
        }
    }

    private static void fogIsSo() {
        of("9", "STATE: it is so");
        EDGES.refused("fog(14, 1), where it is", Edges::busy, y -> y.fog(14, 1), STATE);
        EDGES.refused("fog(3, 0), where it went", Edges::busy, y -> y.fog(3, 0), STATE);
        EDGES.refused("fog(0, 0), where it never was", Edges::busy, y -> y.fog(0, 0), STATE);
    }

    private static void fogBadAheadOfState() {
        of("9", "refused, the first of these: BAD, then STATE");
        EDGES.refused("fog(15, 0)", Edges::busy, y -> y.fog(15, 0), BAD);
        EDGES.refused("fog(14, 2)", Edges::busy, y -> y.fog(14, 2), BAD);
        EDGES.refused("fog(0, -1)", Edges::busy, y -> y.fog(0, -1), BAD);
    }

    private static void fogOnAll() {
        of("9", "how many STREETS are in it: none, all");
        FewerLamps x = Edges.told(Edges.WHOLE_TOWN);
        for (int s = 0; s < 15; s++) {
            due("comes on " + s, x.fog(s, 1), s + 1);
        }
        due("bits", x.now(3), 32767);
        due("all as they were, but OTHER", x.after(1), x.now(1) ^ 4);
        for (int s = 0; s < 15; s++) {
            due("goes from " + s, x.fog(s, 0), 14 - s);
        }
        due("bits", x.now(3), 0);
    }

    // ---- promise 10

    private static void undoNone() {
        of("10", "STATE: none");
        EDGES.refused("of a town that was read", () -> Edges.told(Edges.WHOLE_TOWN), y -> y.undo(), STATE);
        FewerLamps x = Edges.belled("l2 0;", 1);
        due("the one", x.undo(), 0);
        due("none", x.undo(), STATE);
        due("as told", x.now(1) + x.now(0), 0);
    }

    private static void undoTen() {
        of("10", "10 are known");
        FewerLamps x = Edges.belled("l2 0;", 10);
        due("count(2)", x.count(2), 10);
        for (int left = 9; left >= 0; left--) {
            due("undo()", x.undo(), left);
            due("count(2)", x.count(2), left);
            due("bells", x.now(0), left);
            due("stand", x.now(1), left % 2);
        }
        due("none", x.undo(), STATE);
        due("bell 0", x.now(0), 0);
    }

    private static void undoEleven() {
        of("10", "older ones are lost");
        for (int more = 1; more <= 12; more++) {
            FewerLamps x = Edges.belled("l2 0;", 10 + more);
            due("count(2)", x.count(2), 10);
            for (int left = 9; left >= 0; left--) {
                due("undo()", x.undo(), left);
            }
            due("none", x.undo(), STATE);
            due("the older bells stay", x.now(0), more);
            due("their stand, too", x.now(1), more % 2);
        }
        FewerLamps y = Edges.told("l2 0;l3 0;s0 1;");
        y.fog(0, 1);
        y.turn(1);
        for (int b = 0; b < 10; b++) {
            y.bell();
        }
        while (y.undo() > 0) {
            due("fog", y.now(3), 1);
        }
        due("the fog that is lost stays", y.now(3), 1);
        due("the hand that is lost stays", y.now(4), 2);
        due("what it turned stays", y.now(1), 2);
    }

    private static void undoEachSort() {
        of("10", "the latest BELL, TURNED or FOG: all is as ahead of it");
        FewerLamps x = Edges.told("l2 0;l3 0;s0 1;");
        x.turn(1);
        x.turn(0);
        x.fog(0, 1);
        x.bell();
        x.fog(0, 0);
        due("fog that went", x.undo(), 4);
        due("is there", x.now(3), 1);
        due("bell", x.undo(), 3);
        due("no bell", x.now(0), 0);
        due("stand", x.now(1), 3);
        due("turned yet", x.now(4), 1);
        due("fog that came", x.undo(), 2);
        due("is gone", x.now(3), 0);
        due("a hand", x.undo(), 1);
        due("stand", x.now(1), 2);
        due("turned yet", x.now(4), 2);
        due("the first hand", x.undo(), 0);
        due("stand", x.now(1), 0);
        due("turned yet", x.now(4), 3);
    }

    private static void undoAndOn() {
        of("10", "how many more may be: what is UNDONE is known no more");
        FewerLamps x = Edges.belled("l2 0;", 10);
        due("undo()", x.undo(), 9);
        x.bell();
        due("ten again", x.count(2), 10);
        x.bell();
        due("and ten", x.count(2), 10);
        for (int left = 9; left >= 0; left--) {
            due("undo()", x.undo(), left);
        }
        due("none", x.undo(), STATE);
        due("the first bell is lost", x.now(0), 1);
    }

    private static void undoRefusedOnesAreNone() {
        of("10", "what was refused is none of the ten");
        FewerLamps x = Edges.told("l2 0;l3 0;s0 1;");
        x.turn(0);
        x.turn(2);
        x.fog(0, 0);
        x.fog(0, 2);
        x.keep(0);
        x.after(5);
        due("count(2)", x.count(2), 1);
        due("undo()", x.undo(), 0);
        due("stand", x.now(1), 0);
    }

    // ---- promise 11

    private static void nowWhat() {
        of("11", "what is 0 .. 4");
        FewerLamps x = Edges.busy();
        due("now(0)", x.now(0), 3);
        due("now(3)", x.now(3), 1 << 14);
        due("now(4)", x.now(4), 2);
        for (int what : new int[] {-1, 5, LEAST, MOST}) {
            EDGES.refused("now(" + what + ")", Edges::busy, y -> y.now(what), BAD);
        }
    }

    private static void nowLeastAndMost() {
        of("11", "the STAND and how many are ON: none, all");
        FewerLamps dark = Edges.told(Edges.NINE);
        due("none, stand", dark.now(1), 0);
        due("none, how many", dark.now(2), 0);
        FewerLamps lit = Edges.told("l3 1;".repeat(9));
        due("all, stand", lit.now(1), 511);
        due("all, how many", lit.now(2), 9);
        FewerLamps last = Edges.told("l3 0;".repeat(8) + "l3 1;");
        due("the ninth, stand", last.now(1), 256);
        due("the ninth, how many", last.now(2), 1);
    }
}
