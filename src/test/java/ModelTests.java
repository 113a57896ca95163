import java.util.Random;

/** Runs of calls by lot (always the same lot), each answer held against SlowTown's. */
public final class ModelTests {
    private static final Check CHECK = new Check();
    private static final String[] NAMES = {"clear", "town", "lamp", "street", "bell", "turn", "fog", "undo", "now", "after",
        "round", "again", "ahead", "eden", "lit", "who", "thief", "still", "mist", "flickers", "mark", "keep", "back",
        "count", "trace", "type"};

    private final Random lot;
    private final FewerLamps x = new FewerLamps();
    private final SlowTown slow = new SlowTown();
    private final StringBuilder log = new StringBuilder();
    private int lamps;
    private int streets;
    private int calls;

    private ModelTests(int seed) {
        lot = new Random(seed);
    }

    public static void main(String[] args) {
        for (int seed = 1; seed <= 400; seed++) {
            new ModelTests(seed).run();
        }
        CHECK.end();
    }

    private void run() {
        readTown();
        while (calls < 512) {
            String name = NAMES[lot.nextInt(NAMES.length)];
            if (name.equals("type") || name.equals("town") || name.equals("clear")) {
                // Texts are seldom, so that towns live long enough.
                if (lot.nextInt(12) == 0) {
                    readTown();
                }
            } else if ((name.equals("eden") || name.equals("ahead")) && lot.nextInt(3) > 0) {
                ask("bell");
            } else {
                ask(name, arguments(name));
            }
        }
    }

    private void readTown() {
        String text = lot.nextInt(3) == 0 ? spoiled(text()) : text();
        for (int i = 0; i < text.length(); i++) {
            ask("type", text.charAt(i));
        }
        if (ask("town") < -9) {
            ask("count", 0);
            if (lot.nextBoolean()) {
                ask("clear");
            }
        }
        lamps = (int) ask("count", 0);
        streets = (int) ask("count", 1);
    }

    private String text() {
        StringBuilder t = new StringBuilder();
        int n = lot.nextInt(10);
        boolean plain = lot.nextBoolean();
        for (int i = 0; i < n; i++) {
            int rule = plain ? lot.nextInt(2) : lot.nextInt(4);
            t.append('l').append(blanks()).append(rule).append(' ').append(lot.nextInt(2)).append(blanks()).append(';');
        }
        int tries = n < 2 ? 0 : lot.nextInt(25);
        boolean[] told = new boolean[100];
        int many = 0;
        for (int i = 0; i < tries && many < 15; i++) {
            int a = lot.nextInt(n);
            int b = lot.nextInt(n);
            if (a != b && !told[10 * a + b]) {
                told[10 * a + b] = true;
                told[10 * b + a] = true;
                many++;
                t.append('s').append(a).append(' ').append(b).append(blanks()).append(';').append(blanks());
            }
        }
        return t.toString();
    }

    private String blanks() {
        return lot.nextInt(8) == 0 ? " ".repeat(lot.nextInt(3)) : "";
    }

    private String spoiled(String text) {
        StringBuilder t = new StringBuilder(text);
        String bytes = "ls;0123456789  \u00e9Ax\n";
        for (int i = lot.nextInt(3); i >= 0 && t.length() > 0; i--) {
            int at = lot.nextInt(t.length());
            char c = bytes.charAt(lot.nextInt(bytes.length()));
            switch (lot.nextInt(4)) {
                case 0: t.setCharAt(at, c); break;
                case 1: t.insert(at, c); break;
                case 2: t.deleteCharAt(at); break;
                default: t.setLength(at); break;
            }
        }
        return t.toString();
    }

    private int[] arguments(String name) {
        switch (name) {
            case "lamp": return new int[] {lamp(), near(5)};
            case "street": return new int[] {street(), near(3)};
            case "turn": return new int[] {lamp()};
            case "fog": return new int[] {street(), near(2)};
            case "now": return new int[] {near(5)};
            case "after": return new int[] {lot.nextInt(4) == 0 ? near(601) : lot.nextInt(20)};
            case "round": case "still": case "keep": case "back": return new int[] {near(2)};
            case "ahead": return new int[] {stand(), near(2)};
            case "lit": return new int[] {lot.nextInt(3) == 0 ? stand() : 1 << lot.nextInt(lamps + 1), bells(), near(3)};
            case "who": return new int[] {bells(), stand(), near(2)};
            case "thief": return new int[] {lamp(), lamp()};
            case "mist": return new int[] {stand()};
            case "flickers": return new int[] {lamp(), bells()};
            case "mark": return new int[] {near(6), lamp()};
            case "count": return new int[] {near(4)};
            default: return new int[0];
        }
    }

    /** A number from 0 to below n, now and then one just outside, or far. */
    private int near(int n) {
        if (lot.nextInt(30) == 0) {
            int[] far = {-1, n, Integer.MIN_VALUE, Integer.MAX_VALUE, n + 1, -2};
            return far[lot.nextInt(far.length)];
        }
        return n <= 0 ? 0 : lot.nextInt(n);
    }

    private int lamp() {
        return near(lamps);
    }

    private int street() {
        return near(streets);
    }

    private int bells() {
        return lot.nextInt(6) == 0 ? near(61) : lot.nextInt(5);
    }

    private int stand() {
        switch (lot.nextInt(3)) {
            case 0: return x.after(1);
            case 1: return x.after(lot.nextInt(8)) ^ (lamps == 0 ? 0 : 1 << lot.nextInt(lamps));
            default: return near(1 << lamps);
        }
    }

    private long ask(String name, int... a) {
        calls++;
        StringBuilder call = new StringBuilder(name).append('(');
        for (int i = 0; i < a.length; i++) {
            call.append(i > 0 ? ", " : "").append(a[i]);
        }
        call.append(')');
        log.append(call).append(' ');
        long got = Calls.answer(x, name, a);
        long want = slow.call(name, a);
        if (got != want) {
            System.out.println("behind " + log);
        }
        CHECK.due(call.toString(), got, want);
        return got;
    }
}
