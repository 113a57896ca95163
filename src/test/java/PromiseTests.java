/** Each promise by its number: ordinary inputs, the edges that the document names, wrong inputs. */
public final class PromiseTests {
    private static final Check CHECK = new Check();
    private static final int BAD = FewerLamps.BAD, STATE = FewerLamps.STATE, FULL = FewerLamps.FULL;
    private static final int NONE = FewerLamps.NONE, NO = FewerLamps.NO;
    private static final int LEAST = Integer.MIN_VALUE, MOST = Integer.MAX_VALUE;

    /** Lamps 0 FEWER on, 1 MORE off, 2 OTHER on, 3 NEVER off; streets 0-1, 1-2, 2-3. */
    private static final String FOUR = "l0 1;l1 0;l2 1;l3 0;s1 0;s1 2;s2 3;";

    public static void main(String[] args) {
        promise1();
        promises2And3();
        promise4Good();
        promise4Faults();
        promise4Limits();
        promise4Changes();
        promise5();
        promise6();
        promise7();
        promise8();
        promise9();
        promise10();
        promise11();
        promise12();
        promises13And14();
        promises15And16();
        promise17();
        promise18();
        promise19();
        promise20();
        promise21();
        promise22();
        promises23And27();
        promises24And25();
        promise26();
        CHECK.end();
    }

    private static void due(String call, long got, long want) {
        CHECK.due(call, got, want);
    }

    private static FewerLamps told(String text) {
        return Check.told(text);
    }

    private static void promise1() {
        due("1 BAD", BAD, -1);
        due("1 STATE", STATE, -2);
        due("1 FULL", FULL, -3);
        due("1 NONE", NONE, -9);
        due("1 NO", NO, -1000000);
        FewerLamps x = new FewerLamps();
        for (int what = 0; what < 4; what++) {
            due("1 count " + what, x.count(what), 0);
            due("1 now " + what, x.now(what), 0);
        }
        due("1 turns left", x.now(4), 3);
        due("1 trace", x.trace(), 0);
        due("1 undo", x.undo(), STATE);
        due("1 back", x.back(0), STATE);
        due("1 lamp", x.lamp(0, 0), BAD);
        due("1 street", x.street(0, 0), BAD);
        due("1 turn", x.turn(0), BAD);
        due("1 fog", x.fog(0, 1), BAD);
        due("1 after", x.after(600), 0);
        due("1 lit", x.lit(1, 0, 0), BAD);
        due("1 thief", x.thief(0, 0), BAD);
        due("1 flickers", x.flickers(0, 0), BAD);
        due("1 no lamp flickers", x.flickers(-1, 0), NONE);
        due("1 mark", x.mark(0, 0), NO);
        due("1 two objects are apart", told("l0 1;").count(0) + x.count(0), 1);
    }

    private static void promises2And3() {
        FewerLamps x = new FewerLamps();
        due("2 byte 0", x.type(0), 1);
        due("2 byte 255", x.type(255), 2);
        due("2 byte 256", x.type(256), BAD);
        due("2 byte -1", x.type(-1), BAD);
        due("2 least", x.type(LEAST), BAD);
        due("2 most", x.type(MOST), BAD);
        for (int n = 3; n <= 200; n++) {
            due("2 byte's number", x.type(32), n);
        }
        due("2 full", x.type(32), FULL);
        due("2 bad ahead of full", x.type(256), BAD);
        due("2 none came", x.count(3), 200);
        due("3 clear", x.clear(), 200);
        due("3 clear again", x.clear(), 0);
        due("3 is empty", x.count(3), 0);
        due("3 from the start", x.type(108), 1);
        FewerLamps y = told("l0 1;");
        y.clear();
        due("3 the town stays", y.now(1), 1);
    }

    private static void reads(String text, int want) {
        FewerLamps x = new FewerLamps();
        Check.write(x, text);
        due("4 [" + text + "]", x.town(), want);
        due("4 text behind [" + text + "]", x.count(3), want < 0 ? text.length() : 0);
    }

    private static void promise4Good() {
        reads("", 0);
        reads("     ", 0);
        reads("l0 1;", 1);
        reads(" l  3   1  ;  ", 1);
        reads("l0 1;l1 0;s0 1;l2 1;s2 0;", 5);
        reads("l0 1;l1 0;s1 0;", 3);
    }

    private static void promise4Faults() {
        reads("l", -11);
        reads("l ", -12);
        reads("l0", -12);
        reads("l0 1", -14);
        reads("l0 1  ", -16);
        reads("l0 1;s", -16);
        reads("ll0 1;", -10);
        reads("x0 1;", -10);
        reads(" t;", -11);
        reads("0 1;", -10);
        reads(";", -10);
        reads("l0 1;;", -15);
        reads("L0 1;", -10);
        reads("l0 1\t;", -14);
        reads("l0 1;\n", -15);
        reads("l-1 0;", -11);
        reads("l a 1;", -12);
        reads("l;", -11);
        reads("l4 0;", -11);
        reads("l0 2;", -13);
        reads("l01;", -11);
        reads("l00 1;", -11);
        reads("l0 01;", -13);
        reads("l0 00;", -13);
        reads("l100 0;", -11);
        reads("l0 4294967296;", -13);
        reads("l0 4294967297;", -13);
        reads("l0 1 1;", -15);
        reads("l0 1l0 1;", -14);
        reads("s0 1;", -11);
        reads("l0 1;s1 0;", -16);
        reads("l0 1;s0 1;", -18);
        reads("l0 1;s0 0;", -18);
        reads("l0 1;s0;", -17);
        reads("l0 1;l0 1;s0 1;s0 1;", -28);
        reads("l0 1;l0 1;s0 1;s1 0;", -28);
        reads("l0 1;l0 1;s0 1", -24);
        reads("l0 1;s0 1;l0 1;", -18);
        reads("l4 0;#", -11);
        reads("l0 0;#l4", -15);
        reads("l0 0;" + (char) 233, -15);
        reads("l0 0;" + (char) 0, -15);
        reads("l0 0;ls", -15);
        reads("l0 0;s99 0;", -16);
        reads("l" + "9".repeat(199), -11);
    }

    private static void promise4Limits() {
        String nine = "l0 0;".repeat(9);
        reads(nine, 9);
        reads(nine + "l", -55);
        reads(nine + " l0 0;", -56);
        reads(nine + "s8 9;", -58);
        String fifteen = nine + "s0 1;s0 2;s0 3;s0 4;s0 5;s0 6;s0 7;s0 8;s1 2;s1 3;s1 4;s1 5;s1 6;s1 7;s1 8;";
        reads(fifteen, 24);
        reads(fifteen + "s2 3;", -130);
        reads(fifteen + "s", -130);
        reads(fifteen + "x", -130);
        reads(nine + " ".repeat(155), 9);
    }

    private static void promise4Changes() {
        FewerLamps x = told(FOUR);
        x.bell();
        x.turn(0);
        x.turn(0);
        x.fog(1, 1);
        x.keep(0);
        x.mark(0, 0);
        Check.write(x, "l0 1;l0 1;l7");
        due("4 fault", x.town(), -21);
        due("4 lamps stay", x.count(0), 4);
        due("4 streets stay", x.count(1), 3);
        due("4 undo stays", x.count(2), 4);
        due("4 bells stay", x.now(0), 1);
        due("4 fog stays", x.now(3), 2);
        due("4 turns stay", x.now(4), 1);
        due("4 image stays", x.back(0), 1);
        x.clear();
        Check.write(x, "l3 1;l0 0;s1 0;");
        due("4 anew", x.town(), 3);
        due("4 as told", x.now(1), 1);
        due("4 bell 0", x.now(0), 0);
        due("4 no fog", x.now(3), 0);
        due("4 three turns", x.now(4), 3);
        due("4 nothing to be undone", x.undo(), STATE);
        due("4 no image", x.back(0), STATE);
        due("4 the trace stays", x.trace(), 1);
        due("4 other streets", x.lamp(0, 2), 1);
        due("4 other bells", x.after(1), 1);
        due("4 mist of the town that is", x.mist(1), 1);
        Check.write(x, "l3 1;l1 0;s1 0;");
        x.town();
        due("4 bells of the new one", x.after(1), 3);
        due("4 mist of the new one", x.mist(1), 1);
        Check.write(x, "l3 1;l2 0;s1 0;");
        x.town();
        due("4 bells of a third", x.after(1), 3);
        due("4 mist of a third", x.mist(3), 1);
        due("4 an empty text empties", x.town(), 0);
        due("4 no lamps", x.count(0), 0);
        due("4 nothing on", x.now(1), 0);
    }

    private static void promise5() {
        FewerLamps x = told(FOUR);
        int[][] want = {{0, 1, 1, 0, 1}, {1, 0, 2, 2, 0}, {2, 1, 2, 0, 2}, {3, 0, 1, 1, 0}};
        for (int l = 0; l < 4; l++) {
            for (int what = 0; what < 5; what++) {
                due("5 lamp " + l + " " + what, x.lamp(l, what), want[l][what]);
            }
        }
        x.fog(1, 1);
        due("5 streets in fog lead, too", x.lamp(1, 2), 2);
        due("5 no neighbour in fog", x.lamp(1, 3), 1);
        due("5 nor on the other side", x.lamp(2, 4), 1);
        x.turn(0);
        due("5 now off", x.lamp(0, 1), 0);
        due("5 neighbour off", x.lamp(1, 4), 1);
        due("5 lamp 4", x.lamp(4, 0), BAD);
        due("5 lamp -1", x.lamp(-1, 0), BAD);
        due("5 lamp least", x.lamp(LEAST, 0), BAD);
        due("5 what 5", x.lamp(0, 5), BAD);
        due("5 what -1", x.lamp(0, -1), BAD);
    }

    private static void promise6() {
        FewerLamps x = told(FOUR);
        due("6 lesser", x.street(0, 0), 0);
        due("6 other", x.street(0, 1), 1);
        due("6 lesser 2", x.street(2, 0), 2);
        due("6 other 2", x.street(2, 1), 3);
        due("6 no fog", x.street(2, 2), 0);
        x.fog(2, 1);
        due("6 fog", x.street(2, 2), 1);
        due("6 just there", x.street(1, 2), 0);
        due("6 street 3", x.street(3, 0), BAD);
        due("6 street -1", x.street(-1, 0), BAD);
        due("6 street most", x.street(MOST, 0), BAD);
        due("6 what 3", x.street(0, 3), BAD);
        due("6 what -1", x.street(0, -1), BAD);
    }

    private static void promise7() {
        FewerLamps x = told(FOUR);
        due("7 all at once", x.bell(), 3);
        due("7 bells", x.now(0), 1);
        due("7 as many: as they were", told("l0 1;l1 1;l3 1;l3 0;s0 2;s0 3;s1 2;s1 3;").bell(), 7);
        due("7 none: as they were", told("l0 1;l0 0;l1 1;l1 0;").bell(), 5);
        due("7 fewer on: fewer is on", told("l0 0;l3 0;s0 1;").bell(), 1);
        due("7 more on: fewer is off", told("l0 1;l3 1;s0 1;").bell(), 2);
        due("7 fewer on: more is off", told("l1 1;l3 0;s0 1;").bell(), 0);
        due("7 more on: more is on", told("l1 0;l3 1;s0 1;").bell(), 3);
        due("7 other, never", told("l2 0;l2 1;l3 0;l3 1;").bell(), 9);
        FewerLamps f = told("l0 0;l3 0;s0 1;");
        f.fog(0, 1);
        due("7 fog", f.bell(), 0);
        for (int b = 1; b <= 997; b++) {
            x.bell();
        }
        int later = x.after(2);
        x.bell();
        due("7 bell 999", x.now(0), 999);
        int stand = x.now(1);
        due("7 no more", x.bell(), STATE);
        due("7 stands", x.now(1), stand);
        due("7 known", x.count(2), 10);
        due("7 thought goes on", x.after(1), later);
    }

    private static void promise8() {
        FewerLamps x = told(FOUR);
        due("8 off", x.turn(0), 4);
        due("8 never, too", x.turn(3), 12);
        due("8 off again", x.turn(3), 4);
        due("8 three were", x.turn(1), STATE);
        due("8 bad ahead of state", x.turn(4), BAD);
        due("8 no change", x.now(1), 4);
        due("8 known", x.count(2), 3);
        x.bell();
        due("8 behind a bell", x.now(4), 3);
        due("8 turn -1", x.turn(-1), BAD);
        due("8 turn most", x.turn(MOST), BAD);
        due("8 turn least", x.turn(LEAST), BAD);
        x.fog(0, 1);
        x.turn(0);
        due("8 fog gives none back", x.now(4), 2);
    }

    private static void promise9() {
        FewerLamps x = told(FOUR);
        due("9 comes", x.fog(0, 1), 1);
        due("9 comes", x.fog(2, 1), 2);
        due("9 is", x.fog(2, 1), STATE);
        due("9 goes", x.fog(0, 0), 1);
        due("9 is gone", x.fog(0, 0), STATE);
        due("9 is 2", x.fog(2, 2), BAD);
        due("9 is -1", x.fog(0, -1), BAD);
        due("9 street 3", x.fog(3, 0), BAD);
        due("9 street -1", x.fog(-1, 1), BAD);
        due("9 known", x.count(2), 3);
        due("9 no bell", x.now(0), 0);
    }

    private static void promise10() {
        FewerLamps x = told(FOUR);
        x.turn(0);
        x.turn(1);
        x.fog(1, 1);
        x.bell();
        due("10 bell", x.undo(), 3);
        due("10 no bell", x.now(0), 0);
        due("10 turns as ahead of the bell", x.now(4), 1);
        due("10 stand", x.now(1), 6);
        due("10 fog is", x.now(3), 2);
        due("10 fog", x.undo(), 2);
        due("10 no fog", x.now(3), 0);
        due("10 bells with no fog", x.after(1), told("l0 0;l1 1;l2 1;l3 0;s1 0;s1 2;s2 3;").bell());
        due("10 turned", x.undo(), 1);
        due("10 as ahead", x.now(1), 4);
        due("10 turn again", x.now(4), 2);
        due("10 turned", x.undo(), 0);
        due("10 none", x.undo(), STATE);
        for (int b = 0; b < 11; b++) {
            x.bell();
        }
        due("10 ten are known", x.count(2), 10);
        for (int left = 9; left >= 0; left--) {
            due("10 left", x.undo(), left);
        }
        due("10 the eldest is lost", x.undo(), STATE);
        due("10 one bell stays", x.now(0), 1);
    }

    private static void promise11() {
        FewerLamps x = told(FOUR);
        x.bell();
        x.turn(3);
        x.fog(1, 1);
        int[] want = {1, 11, 3, 2, 2};
        for (int what = 0; what < 5; what++) {
            due("11 now " + what, x.now(what), want[what]);
        }
        due("11 what 5", x.now(5), BAD);
        due("11 what -1", x.now(-1), BAD);
        due("11 what least", x.now(LEAST), BAD);
    }

    private static void promise12() {
        FewerLamps x = told(FOUR);
        due("12 none", x.after(0), 5);
        due("12 one", x.after(1), 3);
        due("12 nothing is changed", x.now(1) + x.now(0) + x.count(2), 5);
        int[] stands = new int[31];
        for (int n = 0; n <= 30; n++) {
            stands[n] = x.after(n);
        }
        for (int n = 1; n <= 30; n++) {
            due("12 as bells do", x.bell(), stands[n]);
        }
        FewerLamps other = told("l2 0;");
        due("12 600", other.after(600), 0);
        due("12 599", other.after(599), 1);
        due("12 601", other.after(601), BAD);
        due("12 -1", other.after(-1), BAD);
        due("12 most", other.after(MOST), BAD);
        FewerLamps f = told("l0 0;l3 0;s0 1;");
        f.after(1);
        f.fog(0, 1);
        due("12 fog as it is now", f.after(1), 0);
        f.fog(0, 0);
        due("12 fog is gone", f.after(1), 1);
    }

    private static void promises13And14() {
        // Each lamp of MORE has a tie, or just dark ones, about it.
        FewerLamps chain = told("l3 1;l1 0;l1 0;l1 0;s0 1;s1 2;s2 3;");
        due("13 chain waits", chain.round(0), 0);
        due("13 chain is still", chain.round(1), 1);
        due("14 still: at the next bell", chain.again(), 1);
        FewerLamps late = told("l3 1;l1 0;l0 0;s0 1;s1 2;");
        due("13 late", late.round(0), 3);
        due("13 late, by one", late.round(1), 1);
        due("14 never again", late.again(), NONE);
        due("14 asked first", told("l3 1;l1 0;l0 0;s0 1;s1 2;").again(), NONE);
        due("14 asked first, comes", told("l0 0;l0 0;s0 1;").again(), 2);
        FewerLamps two = told("l0 0;l0 0;s0 1;");
        due("13 two at once", two.round(0), 0);
        due("13 two", two.round(1), 2);
        due("14 two", two.again(), 2);
        FewerLamps four = told("l0 0;l1 0;s0 1;");
        due("13 four come round", four.round(1), 4);
        due("14 four", four.again(), 4);
        due("13 what 2", four.round(2), BAD);
        due("13 what -1", four.round(-1), BAD);
        due("13 nothing is changed", four.now(0) + four.now(1) + four.count(2), 0);
        four.fog(0, 1);
        due("13 fog", four.round(1), 1);
    }

    private static void promises15And16() {
        FewerLamps all = told("l0 0;l1 0;s0 1;");
        for (int s = 0; s < 4; s++) {
            due("15 one each", all.ahead(s, 0), 1);
        }
        due("15 the one", all.ahead(1, 1), 0);
        due("16 no eden", all.eden(), 0);
        // 00 and 11 change places, 01 and 10 stay.
        FewerLamps one = told("l3 0;l0 0;s0 1;");
        due("15 two make it", one.ahead(2, 0), 2);
        due("15 the least is 0", one.ahead(2, 1), 0);
        due("15 two make 1", one.ahead(1, 0), 2);
        due("15 the least is 1", one.ahead(1, 1), 1);
        due("15 none makes 3", one.ahead(3, 0), 0);
        due("15 none", one.ahead(3, 1), NONE);
        due("16 two", one.eden(), 2);
        due("15 bits of none", one.ahead(4, 0), BAD);
        due("15 stand -1", one.ahead(-1, 0), BAD);
        due("15 what 2", one.ahead(0, 2), BAD);
        due("15 what -1", one.ahead(0, -1), BAD);
        one.fog(0, 1);
        due("16 fog", one.eden(), 0);
        due("15 fog", one.ahead(3, 1), 3);
        due("16 no lamps: all is made", new FewerLamps().eden(), 0);
        due("15 no lamps, stand 1", new FewerLamps().ahead(1, 0), BAD);
    }

    private static void promise17() {
        FewerLamps x = told("l3 0;l3 0;l3 0;l3 0;");
        due("17 three", x.lit(7, 0, 0), 3);
        due("17 one way", x.lit(7, 60, 1), 1);
        due("17 those", x.lit(7, 0, 2), 7);
        due("17 four are too many", x.lit(15, 0, 0), NONE);
        due("17 NONE for ways", x.lit(15, 0, 1), NONE);
        due("17 NONE for the least", x.lit(15, 0, 2), NONE);
        x.turn(0);
        x.turn(1);
        x.turn(2);
        due("17 none is needed", x.lit(7, 0, 0), 0);
        due("17 the empty set", x.lit(7, 0, 2), 0);
        due("17 one set", x.lit(7, 0, 1), 1);
        due("17 turned thrice: yet sets of three", x.lit(8, 0, 2), 8);
        // FEWER between two that never change: lit for ever as soon as both are dark, or at bell 0 if it is on by a tie.
        FewerLamps y = told("l0 0;l3 1;l3 0;s0 1;s0 2;");
        due("17 one lamp", y.lit(1, 1, 0), 1);
        due("17 two ways", y.lit(1, 1, 1), 2);
        due("17 the least way", y.lit(1, 1, 2), 1);
        due("17 at bell 0 by one way", y.lit(1, 0, 1), 1);
        due("17 some 0", y.lit(0, 0, 0), BAD);
        due("17 bits of none", y.lit(8, 0, 0), BAD);
        due("17 some -1", y.lit(-1, 0, 0), BAD);
        due("17 k 61", y.lit(1, 61, 0), BAD);
        due("17 k 60", y.lit(1, 60, 0), 1);
        due("17 k -1", y.lit(1, -1, 0), BAD);
        due("17 what 3", y.lit(1, 0, 3), BAD);
        due("17 what -1", y.lit(1, 0, -1), BAD);
        // Lamps 0 and 1 have a tie between 2 and 3: both by hand, or 2, which is one hand less but a greater set.
        FewerLamps tie = told("l0 0;l0 0;l3 1;l3 0;s0 2;s0 3;s1 2;s1 3;");
        due("17 fewest, not first", tie.lit(3, 1, 0), 1);
        due("17 just those", tie.lit(3, 1, 1), 1);
        due("17 fewest, not least", tie.lit(3, 1, 2), 4);
        due("17 at once by both", tie.lit(3, 0, 2), 3);
        due("17 not for ever", told("l2 1;").lit(1, 0, 0), NONE);
        due("17 nothing is changed", y.now(1) + y.count(2), 2);
    }

    private static void promise18() {
        FewerLamps x = told("l3 0;l0 0;s0 1;");
        due("18 by none", x.who(0, 0, 1), 0);
        due("18 one way", x.who(0, 3, 0), 1);
        due("18 that way", x.who(0, 3, 1), 3);
        due("18 behind a bell", x.who(1, 1, 0), 2);
        due("18 the least", x.who(1, 1, 1), 1);
        due("18 no way", x.who(1, 3, 0), 0);
        due("18 none", x.who(1, 3, 1), NONE);
        due("18 60 bells", x.who(60, 2, 0), 2);
        due("18 61 bells", x.who(61, 2, 0), BAD);
        due("18 -1 bells", x.who(-1, 2, 0), BAD);
        due("18 bits of none", x.who(0, 4, 0), BAD);
        due("18 stand -1", x.who(0, -1, 0), BAD);
        due("18 what 2", x.who(0, 0, 2), BAD);
        due("18 what -1", x.who(0, 0, -1), BAD);
        FewerLamps y = told("l3 0;l3 0;l3 0;l3 0;");
        due("18 three", y.who(0, 14, 1), 14);
        due("18 four are too many", y.who(0, 15, 0), 0);
        y.turn(0);
        y.turn(1);
        y.turn(2);
        due("18 turned thrice: yet three", y.who(0, 0, 1), 7);
    }

    private static void promise19() {
        FewerLamps dark = told("l3 0;l3 0;l3 0;l3 0;s0 1;s1 2;");
        due("19 there", dark.thief(0, 0), 0);
        due("19 a street", dark.thief(0, 1), 1);
        due("19 back, too", dark.thief(2, 0), 2);
        due("19 no street", dark.thief(0, 3), NONE);
        dark.fog(0, 1);
        due("19 through fog", dark.thief(0, 2), 2);
        dark.turn(1);
        due("19 a lamp between", dark.thief(0, 2), NONE);
        due("19 to a lamp that is on", dark.thief(0, 1), NONE);
        due("19 from a lamp that is on", dark.thief(1, 1), NONE);
        FewerLamps other = told("l3 0;l2 0;l3 0;l2 1;s0 1;s1 2;s3 0;");
        due("19 must wait", other.thief(0, 1), 2);
        due("19 by it just when it is off", other.thief(0, 2), 3);
        due("19 into one that goes off", other.thief(0, 3), 1);
        due("19 lamp 4", other.thief(4, 0), BAD);
        due("19 to 4", other.thief(0, 4), BAD);
        due("19 -1", other.thief(-1, 0), BAD);
        due("19 to -1", other.thief(0, -1), BAD);
        due("19 most", other.thief(0, MOST), BAD);
    }

    private static void promise20() {
        // 0 and 1 change places for ever; a lamp that never changes holds one of them.
        FewerLamps x = told("l0 0;l0 0;l3 0;l3 1;s0 1;");
        due("20 the first pair", x.still(0), 2);
        due("20 bells", x.still(1), 2);
        due("20 nothing is changed", x.count(1) + x.lamp(0, 2) + x.lamp(2, 2), 2);
        due("20 bells as they were", x.round(1), 2);
        due("20 what 2", x.still(2), BAD);
        due("20 what -1", x.still(-1), BAD);
        due("20 the greater lamp is held", told("l3 0;l0 0;l0 0;s1 2;").still(0), 1);
        due("20 two lamps alone", told("l0 0;l0 0;s0 1;").still(0), NONE);
        due("20 none for bells", told("l0 0;l0 0;s0 1;").still(1), NONE);
        due("20 a still town yet has a street more", told("l3 0;l3 0;").still(0), 1);
        due("20 behind no bell", told("l3 0;l3 0;").still(1), 0);
        due("20 one lamp has no pair", told("l3 0;").still(0), NONE);
        FewerLamps fog = told("l3 0;l3 0;s0 1;");
        fog.fog(0, 1);
        due("20 a street in fog is one", fog.still(0), NONE);
        FewerLamps full = told("l3 0;".repeat(9) + "s0 1;s0 2;s0 3;s0 4;s0 5;s0 6;s0 7;s0 8;s1 2;s1 3;s1 4;s1 5;s1 6;s1 7;s1 8;");
        due("20 beside fifteen", full.still(0), 23);
    }

    private static void promise21() {
        FewerLamps x = told("l0 0;l3 0;l3 1;l3 1;s0 1;s0 2;s0 3;");
        due("21 a bell", x.after(1), 12);
        due("21 a tie: dark", x.mist(12), 7);
        due("21 never lit", x.mist(13), 0);
        x.fog(1, 1);
        due("21 one of two", x.mist(13), 4);
        due("21 the other one", x.mist(12), 1);
        due("21 fog stays", x.now(3), 2);
        due("21 bits of none", x.mist(16), BAD);
        due("21 -1", x.mist(-1), BAD);
        due("21 bells as they were", x.after(1), 12);
        due("21 no streets", told("l0 0;").mist(0), 0);
    }

    private static void promise22() {
        FewerLamps x = told("l3 1;l2 0;l2 1;l0 0;s0 3;");
        due("22 each bell", x.flickers(1, 60), 60);
        due("22 never", x.flickers(0, 60), 0);
        due("22 no bell", x.flickers(1, 0), 0);
        due("22 one bell", x.flickers(2, 1), 1);
        due("22 most, the least", x.flickers(-1, 5), 1);
        due("22 most in no bell", x.flickers(-1, 0), 0);
        due("22 61 bells", x.flickers(0, 61), BAD);
        due("22 -1 bells", x.flickers(0, -1), BAD);
        due("22 lamp 4", x.flickers(4, 0), BAD);
        due("22 lamp -2", x.flickers(-2, 0), BAD);
        due("22 most, 61 bells", x.flickers(-1, 61), BAD);
        due("22 no lamps, 61 bells", new FewerLamps().flickers(-1, 61), BAD);
        due("22 once", told("l3 1;l0 1;s0 1;").flickers(1, 60), 1);
        due("22 last most", told("l3 1;l0 1;s0 1;").flickers(-1, 60), 1);
    }

    private static void promises23And27() {
        FewerLamps x = told(FOUR);
        int[][] want = {{1, 0, 1, 0}, {2, 2, 3, 1}, {1, -1, -1, -3}, {4, 4, 6, 2}, {1, 0, 1, 0}, {3, 2, 3, 2}};
        long[] bodies = {1, 11, 101, 1011, 10101, 100001};
        long trace = 0;
        for (int kind = 0; kind < 6; kind++) {
            for (int l = 0; l < 4; l++) {
                due("23 kind " + kind + " lamp " + l, x.mark(kind, l), want[kind][l]);
                trace += bodies[kind];
                due("27 kind " + kind, x.trace(), trace);
            }
        }
        due("23 kind 6", x.mark(6, 0), NO);
        due("23 kind -1", x.mark(-1, 0), NO);
        due("23 lamp 4", x.mark(0, 4), NO);
        due("23 lamp -1", x.mark(3, -1), NO);
        due("23 most", x.mark(MOST, MOST), NO);
        due("27 nothing came", x.trace(), trace);
        x.fog(0, 1);
        due("23 a street in fog leads, too", x.mark(1, 0), 2);
        x.keep(0);
        x.mark(0, 0);
        x.back(0);
        x.undo();
        due("27 images and undo leave it", x.trace(), trace + 12);
    }

    private static void promises24And25() {
        FewerLamps x = told(FOUR);
        x.bell();
        x.turn(3);
        x.fog(0, 1);
        due("24 keep", x.keep(0), 1);
        due("25 none was kept", x.back(1), STATE);
        x.undo();
        x.undo();
        x.bell();
        x.bell();
        x.turn(1);
        x.turn(2);
        due("24 keep 1", x.keep(1), 3);
        due("25 back", x.back(0), 1);
        int[] want = {1, 11, 3, 1, 2};
        for (int what = 0; what < 5; what++) {
            due("25 now " + what, x.now(what), want[what]);
        }
        due("25 known", x.count(2), 3);
        due("25 bells in that fog", x.after(1), x.bell());
        x.undo();
        due("25 undo", x.undo(), 2);
        due("25 no fog", x.now(3), 0);
        due("25 turned", x.now(1), 11);
        due("25 undo", x.undo(), 1);
        due("25 not turned", x.now(1), 3);
        due("25 three turns", x.now(4), 3);
        due("25 undo", x.undo(), 0);
        due("25 as told", x.now(1), 5);
        due("25 the image stays", x.back(0), 1);
        due("25 with all of it", x.undo(), 2);
        due("25 other image", x.back(1), 3);
        due("25 that is known", x.count(2), 5);
        due("25 those turns", x.now(4), 1);
        due("24 over it", x.keep(0), 3);
        x.bell();
        due("25 the later one", x.back(0), 3);
        due("24 image 2", x.keep(2), BAD);
        due("24 image -1", x.keep(-1), BAD);
        due("25 image 2", x.back(2), BAD);
        due("25 image -1", x.back(-1), BAD);
        due("24 a new object", new FewerLamps().keep(1), 0);
    }

    private static void promise26() {
        FewerLamps x = told(FOUR);
        x.type(32);
        x.bell();
        x.bell();
        int[] want = {4, 3, 2, 1};
        for (int what = 0; what < 4; what++) {
            due("26 count " + what, x.count(what), want[what]);
        }
        due("26 what 4", x.count(4), BAD);
        due("26 what -1", x.count(-1), BAD);
        due("26 what most", x.count(MOST), BAD);
    }
}
