/** Boundary cases of promises 23 to 27: kinds, images, counts, the trace. */
public final class EdgeKindTests {
    private static final Edges EDGES = new Edges();
    private static final int BAD = Edges.BAD, STATE = Edges.STATE, NO = Edges.NO, LEAST = Edges.LEAST, MOST = Edges.MOST;
    private static final String STAR = "s0 1;s0 2;s0 3;s0 4;s0 5;s0 6;s0 7;s0 8;";

    public static void main(String[] args) {
        markKindsThatAre();
        markLampsThatAre();
        markBelow0();
        markLeastAndMost();
        markStreetsInFog();
        keepImagesThatAre();
        keepChangesNothing();
        keepAgain();
        backImagesThatAre();
        backNoneWasKept();
        backBadAheadOfState();
        backAllOfThat();
        backNothingElse();
        backTenUndone();
        backGoneWithTheTown();
        backStaysByAFault();
        countWhat();
        countLeastAndMost();
        traceOfEachKind();
        traceOfNone();
        traceIsNoPartOfNow();
        EDGES.end();
    }

    private static void of(String promise, String words) {
        EDGES.of(promise, words);
    }

    private static void due(String call, long got, long want) {
        EDGES.due(call, got, want);
    }

    // ---- promise 23

    private static void markKindsThatAre() {
        of("23", "KINDS 0 .. 5; NO: BAD");
        FewerLamps x = Edges.told("l3 1;l2 0;s0 1;");
        due("mark(0, 0)", x.mark(0, 0), 1);
        due("mark(5, 0)", x.mark(5, 0), 2);
        for (int kind : new int[] {-1, 6, LEAST, MOST}) {
            EDGES.refused("mark(" + kind + ", 0)", Edges::busy, y -> y.mark(kind, 0), NO);
            EDGES.refused("mark(" + kind + ", 9)", Edges::busy, y -> y.mark(kind, 9), NO);
        }
    }

    private static void markLampsThatAre() {
        of("23", "a LAMP; NO: BAD");
        FewerLamps x = Edges.told(Edges.NINE);
        due("mark(4, 0)", x.mark(4, 0), -3);
        due("mark(4, 8)", x.mark(4, 8), 5);
        for (int l : new int[] {-1, 9, 31, 32, LEAST, MOST}) {
            for (int kind = 0; kind < 6; kind++) {
                int asked = kind;
                EDGES.refused("mark(" + kind + ", " + l + ")", Edges::busy, y -> y.mark(asked, l), NO);
            }
        }
    }

    private static void markBelow0() {
        of("23", "NO: what none is, where a number may be below 0");
        FewerLamps x = Edges.told("l1 0;l2 0;l3 0;l3 1;");
        int[] broken = {-1, -2, -3, -2};
        int[] alley = {-1, -1, -1, 1};
        for (int l = 0; l < 4; l++) {
            due("BROKEN " + l, x.mark(2, l), broken[l]);
            due("ALLEY " + l, x.mark(4, l), alley[l]);
        }
    }

    private static void markLeastAndMost() {
        of("23", "each KIND's MARK: the least and the most");
        FewerLamps dark = Edges.told(Edges.NINE);
        FewerLamps lit = Edges.told("l0 1;" + "l3 1;".repeat(7) + "l0 1;" + STAR);
        int[] least = {0, 0, -3, 0, -3, 0};
        int[] most = {1, 9, 1, 18, 1, 10};
        for (int kind = 0; kind < 6; kind++) {
            due("least, kind " + kind, dark.mark(kind, 0), least[kind]);
            due("most, kind " + kind, lit.mark(kind, 0), most[kind]);
        }
        due("the ninth lamp's ALLEY", lit.mark(4, 8), 9);
    }

    private static void markStreetsInFog() {
        of("23", "how many STREETS lead to it, in FOG, too");
        FewerLamps x = Edges.told(Edges.NINE + STAR);
        for (int s = 0; s < 8; s++) {
            x.fog(s, 1);
        }
        due("CORNER", x.mark(1, 0), 8);
        due("HARBOUR", x.mark(3, 0), 16);
    }

    // ---- promises 24 and 25

    private static void keepImagesThatAre() {
        of("24", "IMAGES 0, 1; BAD");
        FewerLamps x = Edges.busy();
        due("keep(0)", x.keep(0), 3);
        due("keep(1)", x.keep(1), 3);
        due("of a new object", new FewerLamps().keep(0), 0);
        for (int image : new int[] {-1, 2, LEAST, MOST}) {
            EDGES.refused("keep(" + image + ")", Edges::busy, y -> y.keep(image), BAD);
        }
    }

    private static void keepChangesNothing() {
        of("24", "an IMAGE is kept, NOW stays");
        FewerLamps x = Edges.busy();
        FewerLamps y = Edges.busy();
        x.keep(0);
        for (int what = 0; what < 5; what++) {
            due("now(" + what + ")", x.now(what), y.now(what));
        }
        for (int what = 0; what < 4; what++) {
            due("count(" + what + ")", x.count(what), y.count(what));
        }
        due("the other image", x.back(1), 2);
    }

    private static void keepAgain() {
        of("24", "an IMAGE that was kept is kept anew");
        FewerLamps x = Edges.told("l2 0;");
        due("keep(0)", x.keep(0), 0);
        x.bell();
        due("keep(0)", x.keep(0), 1);
        x.bell();
        due("back(0)", x.back(0), 1);
        due("its stand", x.now(1), 1);
    }

    private static void backImagesThatAre() {
        of("25", "IMAGES 0, 1; BAD");
        FewerLamps x = Edges.busy();
        due("back(0)", x.back(0), 1);
        due("back(1)", x.back(1), 2);
        for (int image : new int[] {-1, 2, LEAST, MOST}) {
            EDGES.refused("back(" + image + ")", Edges::busy, y -> y.back(image), BAD);
        }
    }

    private static FewerLamps keptJust(int image) {
        FewerLamps x = Edges.belled(Edges.WHOLE_TOWN, 2);
        x.keep(image);
        x.bell();
        return x;
    }

    private static void backNoneWasKept() {
        of("25", "STATE: none was kept");
        EDGES.refused("neither, 0", () -> Edges.belled("l2 0;", 2), y -> y.back(0), STATE);
        EDGES.refused("neither, 1", () -> Edges.belled("l2 0;", 2), y -> y.back(1), STATE);
        EDGES.refused("just 0", () -> keptJust(0), y -> y.back(1), STATE);
        EDGES.refused("just 1", () -> keptJust(1), y -> y.back(0), STATE);
        due("that one", keptJust(1).back(1), 2);
    }

    private static void backBadAheadOfState() {
        of("25", "refused, the first of these: BAD, then STATE");
        EDGES.refused("back(2), none was kept", () -> Edges.told("l2 0;"), y -> y.back(2), BAD);
        EDGES.refused("back(-1), none was kept", () -> Edges.told("l2 0;"), y -> y.back(-1), BAD);
    }

    private static void backAllOfThat() {
        of("25", "all of that: BELLS, the STAND, how often it may be TURNED yet, FOG, what may be UNDONE");
        FewerLamps x = Edges.told("l2 0;l3 0;s0 1;");
        x.bell();
        x.turn(1);
        x.turn(1);
        x.turn(1);
        x.fog(0, 1);
        x.keep(1);
        x.undo();
        x.undo();
        x.bell();
        x.bell();
        due("back(1)", x.back(1), 1);
        int[] now = {1, 3, 2, 1, 0};
        for (int what = 0; what < 5; what++) {
            due("now(" + what + ")", x.now(what), now[what]);
        }
        due("may be UNDONE", x.count(2), 5);
        due("turned thrice", x.turn(0), STATE);
        due("in FOG", x.fog(0, 1), STATE);
        for (int left = 4; left >= 0; left--) {
            due("undo()", x.undo(), left);
        }
        due("as told", x.now(1) + x.now(0) + x.now(3), 0);
        due("and it is kept yet", x.back(1), 1);
        due("whole", x.count(2), 5);
        due("a bell from there", x.bell(), 2);
    }

    private static void backNothingElse() {
        of("25", "nothing else: the town, THE TEXT, THE TRACE, the other IMAGE stay");
        FewerLamps x = Edges.told("l2 0;");
        x.keep(0);
        x.bell();
        x.keep(1);
        x.mark(3, 0);
        Check.write(x, "l0");
        due("back(0)", x.back(0), 0);
        due("the text", x.count(3), 2);
        due("the trace", x.trace(), 1011);
        due("the lamps", x.count(0), 1);
        due("the other image", x.back(1), 1);
        due("the first again", x.back(0), 0);
    }

    private static void backTenUndone() {
        of("25", "what may be UNDONE: none, ten");
        FewerLamps x = Edges.told("l2 0;");
        x.keep(0);
        for (int b = 0; b < 11; b++) {
            x.bell();
        }
        x.keep(1);
        x.bell();
        due("back(0)", x.back(0), 0);
        due("none", x.undo(), STATE);
        due("back(1)", x.back(1), 11);
        for (int left = 9; left >= 0; left--) {
            due("undo()", x.undo(), left);
        }
        due("no eleventh", x.undo(), STATE);
        due("bells", x.now(0), 1);
    }

    private static void backGoneWithTheTown() {
        of("25", "read anew: IMAGES are gone");
        FewerLamps x = Edges.busy();
        due("town()", x.town(), 3);
        EDGES.refused("back(0)", () -> readAnew(), y -> y.back(0), STATE);
        EDGES.refused("back(1)", () -> readAnew(), y -> y.back(1), STATE);
        FewerLamps same = Edges.told("l2 0;");
        same.keep(0);
        same.town();
        due("by an empty text, too", same.back(0), STATE);
    }

    private static FewerLamps readAnew() {
        FewerLamps x = Edges.busy();
        x.town();
        return x;
    }

    private static void backStaysByAFault() {
        of("25", "a FAULT: nothing changes, IMAGES neither");
        FewerLamps x = Edges.busy();
        x.type('#');
        due("town()", x.town(), -25);
        due("back(0)", x.back(0), 1);
        due("back(1)", x.back(1), 2);
    }

    // ---- promise 26

    private static void countWhat() {
        of("26", "what is 0 .. 3");
        FewerLamps x = Edges.busy();
        due("count(0)", x.count(0), 9);
        due("count(3)", x.count(3), 15);
        for (int what : new int[] {-1, 4, LEAST, MOST}) {
            EDGES.refused("count(" + what + ")", Edges::busy, y -> y.count(what), BAD);
        }
    }

    private static void countLeastAndMost() {
        of("26", "LAMPS, STREETS, what may be UNDONE, bytes: none, and as many as may be");
        FewerLamps none = new FewerLamps();
        FewerLamps most = Edges.belled(Edges.WHOLE_TOWN, 12);
        Check.write(most, "l".repeat(201));
        int[] want = {9, 15, 10, 200};
        for (int what = 0; what < 4; what++) {
            due("none, " + what, none.count(what), 0);
            due("most, " + what, most.count(what), want[what]);
        }
    }

    // ---- promise 27

    private static void traceOfEachKind() {
        of("27", "numbers come to THE TRACE as often as mark() asks that body");
        long[] bodies = {1, 11, 101, 1011, 10101, 100001};
        for (int kind = 0; kind < 6; kind++) {
            FewerLamps x = Edges.told("l3 0;l2 1;s0 1;");
            x.mark(kind, 0);
            due("kind " + kind, x.trace(), bodies[kind]);
            x.mark(kind, 1);
            due("kind " + kind + " twice", x.trace(), 2 * bodies[kind]);
            due("asked again", x.trace(), 2 * bodies[kind]);
        }
        FewerLamps y = Edges.told("l3 0;");
        for (int i = 0; i < 500; i++) {
            y.mark(5, 0);
        }
        due("500 times", y.trace(), 50000500L);
    }

    private static void traceOfNone() {
        of("27", "THE TRACE: nothing at first, nothing by what is refused, nothing by other calls");
        FewerLamps x = Edges.told(Edges.WHOLE_TOWN);
        due("at first", x.trace(), 0);
        x.mark(6, 0);
        x.mark(0, 9);
        x.mark(-1, -1);
        x.bell();
        x.turn(0);
        x.lamp(0, 2);
        x.lit(1, 1, 0);
        x.still(0);
        due("yet nothing", x.trace(), 0);
    }

    private static void traceIsNoPartOfNow() {
        of("27", "IMAGES keep nothing else; UNDONE; read anew");
        FewerLamps x = Edges.belled("l2 0;", 2);
        x.keep(0);
        x.mark(0, 0);
        x.back(0);
        due("behind back", x.trace(), 1);
        x.undo();
        due("behind undo", x.trace(), 1);
        x.clear();
        x.town();
        due("read anew", x.trace(), 1);
    }
}
