/** Counts answers that are not as due, and tells each of them. */
final class Check {
    private int wrong;
    private int asked;

    void due(String call, long got, long want) {
        asked++;
        if (got != want) {
            wrong++;
            System.out.println(call + " answered " + got + ", due is " + want);
        }
    }

    void holds(String what, boolean does) {
        due(what, does ? 1 : 0, 1);
    }

    /** Ends the program with 1 if an answer was wrong. */
    void end() {
        System.out.println(asked + " asked, " + wrong + " not as due");
        if (wrong != 0) {
            System.exit(1);
        }
    }

    static void write(FewerLamps x, String text) {
        for (int i = 0; i < text.length(); i++) {
            x.type(text.charAt(i));
        }
    }

    /** A new object whose town is as the text tells. */
    static FewerLamps told(String text) {
        FewerLamps x = new FewerLamps();
        write(x, text);
        int items = x.town();
        if (items < 0) {
            throw new IllegalStateException(text + ": " + items);
        }
        return x;
    }
}
