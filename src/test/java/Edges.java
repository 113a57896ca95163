import java.util.function.Supplier;
import java.util.function.ToLongFunction;

/** What the tests of boundary cases share: a sentence of the document, and the answers on each side of its edge. */
final class Edges {
    static final int BAD = FewerLamps.BAD, STATE = FewerLamps.STATE, FULL = FewerLamps.FULL;
    static final int NONE = FewerLamps.NONE, NO = FewerLamps.NO;
    static final int LEAST = Integer.MIN_VALUE, MOST = Integer.MAX_VALUE;

    /** Nine dark lamps that never change, and no street. */
    static final String NINE = "l3 0;".repeat(9);
    /** As many lamps and streets as there may be, of all rules. */
    static final String WHOLE_TOWN = "l0 1;l1 0;l2 1;l3 0;l0 0;l1 1;l0 1;l1 0;l3 1;"
        + "s0 1;s1 2;s2 3;s3 4;s4 5;s5 6;s6 7;s7 8;s8 0;s0 4;s1 5;s2 6;s3 7;s4 8;s5 0;";

    private final Check check = new Check();
    private String sentence = "";

    /** The promise, and the sentence of it, that the answers from here on are due by. */
    void of(String promise, String words) {
        sentence = "Promise " + promise + " (" + words + "): ";
    }

    void due(String call, long got, long want) {
        check.due(sentence + call, got, want);
    }

    /** A call that is refused: its answer is due, and all that can be seen is as if it had not been. */
    void refused(String call, Supplier<FewerLamps> made, ToLongFunction<FewerLamps> ask, long want) {
        FewerLamps x = made.get();
        due(call, ask.applyAsLong(x), want);
        check.holds(sentence + call + ": all stays as it was", whole(x).equals(whole(made.get())));
    }

    /** A call that only asks leaves all as it was, too. */
    void asked(String call, Supplier<FewerLamps> made, ToLongFunction<FewerLamps> ask, long want) {
        refused(call, made, ask, want);
    }

    void end() {
        check.end();
    }

    static FewerLamps told(String text) {
        return Check.told(text);
    }

    static FewerLamps typed(String text) {
        FewerLamps x = new FewerLamps();
        Check.write(x, text);
        return x;
    }

    static FewerLamps belled(String text, int bells) {
        FewerLamps x = told(text);
        for (int b = 0; b < bells; b++) {
            x.bell();
        }
        return x;
    }

    /** A whole town in the midst of things: bells, lamps turned, fog, images, marks, a text begun. */
    static FewerLamps busy() {
        FewerLamps x = told(WHOLE_TOWN);
        x.bell();
        x.turn(0);
        x.fog(3, 1);
        x.keep(0);
        x.bell();
        x.turn(8);
        x.fog(14, 1);
        x.turn(4);
        x.keep(1);
        x.bell();
        x.fog(3, 0);
        x.turn(2);
        x.mark(3, 2);
        Check.write(x, "l1 1;l0 0;s1 0;");
        return x;
    }

    /** All that can be seen of an object; it is used up by that: deeds are undone, images brought back, the text is read. */
    static String whole(FewerLamps x) {
        StringBuilder row = new StringBuilder();
        for (int what = 0; what < 4; what++) {
            row.append(x.count(what)).append(' ');
        }
        row.append(x.trace());
        for (int l = 0; l < x.count(0); l++) {
            for (int what = 0; what < 5; what++) {
                row.append(' ').append(x.lamp(l, what));
            }
        }
        for (int s = 0; s < x.count(1); s++) {
            row.append(" s").append(x.street(s, 0)).append(x.street(s, 1)).append(x.street(s, 2));
        }
        row.append(" bell ").append(x.after(1));
        undoAll(x, row);
        for (int image = 0; image < 2; image++) {
            row.append(" image ").append(x.back(image));
            undoAll(x, row);
        }
        row.append(" text ").append(x.town()).append(' ').append(x.count(0)).append(' ').append(x.now(1));
        return row.toString();
    }

    private static void undoAll(FewerLamps x, StringBuilder row) {
        int left = 0;
        for (int known = 0; known <= 11 && left >= 0; known++) {
            row.append(" now");
            for (int what = 0; what < 5; what++) {
                row.append(' ').append(x.now(what));
            }
            left = x.undo();
            row.append(" undo ").append(left);
        }
    }
}
