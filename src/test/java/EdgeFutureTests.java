/** Boundary cases of promises 12 to 16: what comes, and what can have stood ahead. */
public final class EdgeFutureTests {
    private static final Edges EDGES = new Edges();
    private static final int BAD = Edges.BAD, NONE = Edges.NONE, LEAST = Edges.LEAST, MOST = Edges.MOST;
    /** 110 stands come round here, from the first one on. */
    private static final String LONG_ROUND = "l0 0;l0 0;l0 0;l2 0;l1 1;l0 0;l1 1;l1 1;l1 1;"
        + "s1 3;s4 1;s6 7;s2 5;s3 6;s6 0;s8 5;s3 2;s0 7;s4 8;s4 2;";
    /** Lamp 1 goes on at bell 1, by 0 and 3; lamp 2 at bell 2, by 1 and 0 against 4: then it stands. */
    private static final String TWO_STEPS = "l3 1;l1 0;l1 0;l3 1;l3 0;s0 1;s1 3;s1 2;s2 0;s2 4;";

    public static void main(String[] args) {
        afterFrom0To600();
        afterNoneIsNow();
        afterChangesNothing();
        roundWhat();
        roundByOne();
        roundFewestBells();
        roundLong();
        againOneOrMore();
        againNone();
        aheadStandsThatAre();
        aheadWhat();
        aheadNone();
        aheadOfAll();
        edenNone();
        edenOfAll();
        asksChangeNothing();
        EDGES.end();
    }

    private static void of(String promise, String words) {
        EDGES.of(promise, words);
    }

    private static void due(String call, long got, long want) {
        EDGES.due(call, got, want);
    }

    // ---- promise 12

    private static void afterFrom0To600() {
        of("12", "AFTER n (0 .. 600) BELLS");
        FewerLamps x = Edges.told("l2 0;");
        due("after(0)", x.after(0), 0);
        due("after(1)", x.after(1), 1);
        due("after(599)", x.after(599), 1);
        due("after(600)", x.after(600), 0);
        for (int n : new int[] {-1, 601, LEAST, MOST}) {
            EDGES.refused("after(" + n + ")", Edges::busy, y -> y.after(n), BAD);
        }
        due("no lamps, after(601)", new FewerLamps().after(601), BAD);
    }

    private static void afterNoneIsNow() {
        of("12", "AFTER 0 BELLS: NOW; FOG as it is");
        FewerLamps x = Edges.busy();
        due("after(0)", x.after(0), x.now(1));
        due("all lit", Edges.told("l3 1;".repeat(9)).after(0), 511);
        FewerLamps y = Edges.told("l0 0;l3 0;s0 1;");
        due("no fog", y.after(1), 1);
        y.fog(0, 1);
        due("fog", y.after(600), 0);
        y.undo();
        due("no fog again", y.after(600), 1);
    }

    private static void afterChangesNothing() {
        of("12", "from NOW on, nobody turns; nothing is changed");
        int stand = Edges.busy().after(600);
        EDGES.asked("after(600)", Edges::busy, y -> y.after(600), stand);
        FewerLamps x = Edges.told(LONG_ROUND);
        int now = x.now(1);
        due("after a whole round", x.after(110), now);
        due("after five rounds", x.after(550), now);
        due("a bell ahead of that", x.after(109) == now ? 1 : 0, 0);
    }

    // ---- promises 13 and 14

    private static void roundWhat() {
        of("13", "BELLS (what = 0), how many come round (1)");
        FewerLamps x = Edges.told(TWO_STEPS);
        due("round(0)", x.round(0), 2);
        due("round(1)", x.round(1), 1);
        for (int what : new int[] {-1, 2, LEAST, MOST}) {
            EDGES.refused("round(" + what + ")", Edges::busy, y -> y.round(what), BAD);
        }
    }

    private static void roundByOne() {
        of("13", "STANDS come round: one alone");
        FewerLamps x = Edges.told(Edges.NINE);
        due("at once", x.round(0), 0);
        due("one", x.round(1), 1);
        FewerLamps lit = Edges.told("l3 1;".repeat(9));
        due("all lit, at once", lit.round(0), 0);
        due("all lit, one", lit.round(1), 1);
    }

    private static void roundFewestBells() {
        of("13", "behind how many BELLS (the fewest)");
        FewerLamps x = Edges.told(TWO_STEPS);
        for (int left = 2; left >= 0; left--) {
            due("BELLS yet", x.round(0), left);
            x.bell();
        }
        due("there", x.round(0), 0);
        FewerLamps two = Edges.told("l2 0;" + TWO_STEPS.replace("s0 1;s1 3;s1 2;s2 0;s2 4;", "s1 2;s2 4;s2 3;s3 1;s3 5;"));
        due("with a lamp that changes", two.round(0), 2);
        due("two come round", two.round(1), 2);
    }

    private static void roundLong() {
        of("13", "how many of them come round: many");
        FewerLamps x = Edges.told(LONG_ROUND);
        due("at once", x.round(0), 0);
        due("how many", x.round(1), 110);
        for (int b = 0; b < 109; b++) {
            x.bell();
        }
        due("at once, from another one", x.round(0), 0);
        due("how many, from another one", x.round(1), 110);
    }

    private static void againOneOrMore() {
        of("14", "the fewest BELLS (1 or more)");
        due("no lamps", new FewerLamps().again(), 1);
        due("a still town", Edges.told(Edges.NINE).again(), 1);
        due("a lamp that changes", Edges.told("l2 0;").again(), 2);
        due("four", Edges.told("l0 0;l1 0;s0 1;").again(), 4);
        due("110", Edges.told(LONG_ROUND).again(), 110);
    }

    private static void againNone() {
        of("14", "AGAIN: NONE");
        FewerLamps x = Edges.told(TWO_STEPS);
        due("two bells ahead of the round", x.again(), NONE);
        x.bell();
        due("one bell ahead of it", x.again(), NONE);
        x.bell();
        due("in it", x.again(), 1);
        FewerLamps y = Edges.told("l3 0;l0 0;s0 1;");
        due("one bell ahead", y.again(), NONE);
        y.fog(0, 1);
        due("FOG as it is", y.again(), 1);
    }

    // ---- promises 15 and 16

    private static void aheadStandsThatAre() {
        of("15", "a told STAND; BAD (bits of none)");
        FewerLamps x = Edges.told(Edges.NINE);
        due("ahead(0, 1)", x.ahead(0, 1), 0);
        due("ahead(511, 1)", x.ahead(511, 1), 511);
        FewerLamps one = Edges.told("l2 0;");
        due("of one lamp, ahead(1, 1)", one.ahead(1, 1), 0);
        due("of one lamp, ahead(2, 1)", one.ahead(2, 1), BAD);
        due("of none, ahead(0, 0)", new FewerLamps().ahead(0, 0), 1);
        due("of none, ahead(1, 0)", new FewerLamps().ahead(1, 0), BAD);
        for (int stand : new int[] {-1, 512, 513, LEAST, MOST}) {
            EDGES.refused("ahead(" + stand + ", 0)", Edges::busy, y -> y.ahead(stand, 0), BAD);
            EDGES.refused("ahead(" + stand + ", 1)", Edges::busy, y -> y.ahead(stand, 1), BAD);
        }
    }

    private static void aheadWhat() {
        of("15", "how many (what = 0), the least (1)");
        FewerLamps x = Edges.told("l3 0;l0 0;s0 1;");
        due("how many", x.ahead(1, 0), 2);
        due("the least", x.ahead(1, 1), 1);
        for (int what : new int[] {-1, 2, LEAST, MOST}) {
            EDGES.refused("ahead(0, " + what + ")", Edges::busy, y -> y.ahead(0, what), BAD);
            EDGES.refused("ahead(512, " + what + ")", Edges::busy, y -> y.ahead(512, what), BAD);
        }
    }

    private static void aheadNone() {
        of("15", "how many: 0; the least: NONE");
        FewerLamps x = Edges.told("l3 0;l0 0;s0 1;");
        due("how many", x.ahead(3, 0), 0);
        due("the least", x.ahead(3, 1), NONE);
        due("how many of another one", x.ahead(0, 0), 0);
        due("the least of another one", x.ahead(0, 1), NONE);
        x.fog(0, 1);
        due("FOG as it is", x.ahead(3, 1), 3);
    }

    /** A lamp of FEWER amid eight that never change: two stands make one, if the eight are no tie; a tie makes each itself. */
    private static void aheadOfAll() {
        of("15", "of all STANDS: the first and the last, too");
        FewerLamps x = Edges.told("l0 0;" + "l3 0;".repeat(8) + "s0 1;s0 2;s0 3;s0 4;s0 5;s0 6;s0 7;s0 8;");
        due("the first and one more", x.ahead(1, 0), 2);
        due("the first is the least", x.ahead(1, 1), 0);
        due("the last and one more", x.ahead(510, 0), 2);
        due("the least of them", x.ahead(510, 1), 510);
        due("a tie, not on", x.ahead(30, 1), 30);
        due("a tie, on", x.ahead(31, 1), 31);
        due("a tie, how many", x.ahead(31, 0), 1);
        due("none", x.ahead(511, 0), 0);
    }

    private static void edenNone() {
        of("16", "how many STANDS no STAND makes: none");
        due("no lamps", new FewerLamps().eden(), 0);
        due("all stay", Edges.told(Edges.NINE).eden(), 0);
        due("all change", Edges.told("l2 0;".repeat(9)).eden(), 0);
        due("one lamp", Edges.told("l0 0;").eden(), 0);
    }

    private static void edenOfAll() {
        of("16", "how many STANDS no STAND makes, of all");
        FewerLamps x = Edges.told("l0 0;" + "l3 0;".repeat(8) + "s0 1;s0 2;s0 3;s0 4;s0 5;s0 6;s0 7;s0 8;");
        due("one of each two but the 70 ties", x.eden(), 256 - 70);
        for (int s = 0; s < 8; s++) {
            x.fog(s, 1);
        }
        due("all in FOG", x.eden(), 0);
        x.fog(0, 0);
        due("all but one in FOG", x.eden(), 256);
    }

    private static void asksChangeNothing() {
        of("12 to 16", "nothing is changed");
        EDGES.asked("round(0)", Edges::busy, y -> y.round(0), Edges.busy().round(0));
        EDGES.asked("round(1)", Edges::busy, y -> y.round(1), Edges.busy().round(1));
        EDGES.asked("again()", Edges::busy, y -> y.again(), Edges.busy().again());
        EDGES.asked("ahead(0, 0)", Edges::busy, y -> y.ahead(0, 0), Edges.busy().ahead(0, 0));
        EDGES.asked("ahead(511, 1)", Edges::busy, y -> y.ahead(511, 1), Edges.busy().ahead(511, 1));
        EDGES.asked("eden()", Edges::busy, y -> y.eden(), Edges.busy().eden());
    }
}
