import java.util.ArrayList;
import java.util.Arrays;
import java.util.List;

/**
 * Each call with each of the numbers at an edge of the document, beside one another and in several states; the answers are
 * held against SlowTown, and no call may throw.
 */
public final class EdgeArgumentTests {
    private static final Check CHECK = new Check();
    private static final int[] EDGES = {Integer.MIN_VALUE, Integer.MIN_VALUE + 1, -1000000, -2, -1, 0, 1, 2, 3, 4, 5, 6, 8, 9, 14, 15,
        16, 31, 32, 33, 59, 60, 61, 99, 100, 199, 200, 255, 256, 257, 511, 512, 513, 599, 600, 601, 999, 1000, 65536,
        Integer.MAX_VALUE - 1, Integer.MAX_VALUE};
    /** Of three numbers in a call each is one of these. */
    private static final int[] FEW = {Integer.MIN_VALUE, -1, 0, 1, 2, 3, 60, 61, 256, 511, 512, Integer.MAX_VALUE};
    private static final String[] OF_NONE = {"clear", "town", "bell", "undo", "again", "eden", "trace"};
    private static final String[] OF_ONE = {"type", "turn", "now", "after", "round", "still", "mist", "keep", "back", "count"};
    private static final String[] OF_TWO = {"lamp", "street", "fog", "ahead", "thief", "flickers", "mark"};
    private static final String[] OF_THREE = {"lit", "who"};
    private static final String[] NAMES = {"type", "town", "bell", "turn", "fog", "keep", "mark"};

    public static void main(String[] args) {
        for (List<int[]> state : states()) {
            for (String name : OF_NONE) {
                ask(state, name);
            }
            for (String name : OF_ONE) {
                for (int a : EDGES) {
                    ask(state, name, a);
                }
            }
            for (String name : OF_TWO) {
                for (int a : EDGES) {
                    for (int b : FEW) {
                        ask(state, name, a, b);
                        ask(state, name, b, a);
                    }
                }
            }
            for (String name : OF_THREE) {
                askOfThree(state, name);
            }
        }
        CHECK.end();
    }

    private static void askOfThree(List<int[]> state, String name) {
        for (int a : FEW) {
            for (int b : FEW) {
                for (int c : FEW) {
                    ask(state, name, a, b, c);
                }
            }
        }
    }

    /** In each row the calls that bring a new object into a state: the name's place in NAMES, then the numbers. */
    private static List<List<int[]>> states() {
        List<List<int[]>> states = new ArrayList<>();
        states.add(new ArrayList<>());
        states.add(town("l0 1;"));
        List<int[]> small = town("l0 0;l1 1;l3 0;s0 1;s2 1;");
        small.addAll(List.of(new int[] {2}, new int[] {3, 0}, new int[] {3, 1}, new int[] {3, 2}, new int[] {4, 1, 1},
            new int[] {5, 1}));
        type(small, "l0 1;x");
        states.add(small);
        List<int[]> whole = town(Edges.WHOLE_TOWN);
        whole.addAll(List.of(new int[] {2}, new int[] {3, 8}, new int[] {4, 14, 1}, new int[] {5, 0}, new int[] {2},
            new int[] {6, 3, 8}));
        type(whole, " ".repeat(195) + "l2 1;");
        states.add(whole);
        return states;
    }

    private static List<int[]> town(String text) {
        List<int[]> calls = new ArrayList<>();
        type(calls, text);
        calls.add(new int[] {1});
        return calls;
    }

    private static void type(List<int[]> calls, String text) {
        for (char c : text.toCharArray()) {
            calls.add(new int[] {0, c});
        }
    }

    private static void ask(List<int[]> state, String name, int... a) {
        FewerLamps x = new FewerLamps();
        SlowTown slow = new SlowTown();
        for (int[] call : state) {
            int[] numbers = Arrays.copyOfRange(call, 1, call.length);
            Calls.answer(x, NAMES[call[0]], numbers);
            slow.call(NAMES[call[0]], numbers);
        }
        StringBuilder told = new StringBuilder("behind ").append(state.size()).append(" calls ").append(name);
        for (int n : a) {
            told.append(' ').append(n);
        }
        long want = slow.call(name, a);
        CHECK.due(told.toString(), Calls.answer(x, name, a), want);
        for (int what = 0; what < 5; what++) {
            CHECK.due(told + ", then now " + what, x.now(what), slow.call("now", what));
            CHECK.due(told + ", then count " + what, x.count(what), slow.call("count", what));
        }
        CHECK.due(told + ", then trace", x.trace(), slow.call("trace"));
    }
}
