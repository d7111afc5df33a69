import java.util.List;

/**
 * In each of several states every call with each number that stands at an edge
 * of a range, each with each: no call throws or fails to end, and each answer is
 * compared with that of the model. Behind the calls all that can be seen of the
 * object is compared, too.
 */
public final class AnyArgumentsTest {
    private static final int LEAST = Integer.MIN_VALUE;
    private static final int MOST = Integer.MAX_VALUE;
    private static final int[] EDGES = {LEAST, LEAST + 1, LEAST + 19, LEAST + 20, LEAST + 28, -65536, -57, -56, -55,
        -29, -28, -20, -4, -3, -2, -1, 0, 1, 2, 3, 4, 5, 6, 7, 8, 9, 10, 19, 20, 21, 22, 23, 26, 27, 28, 29, 31, 32,
        33, 55, 56, 57, 59, 60, 61, 112, 125, 126, 127, 65536, MOST - 28, MOST - 27, MOST - 1, MOST};
    /** Fewer, for the calls of three numbers. */
    private static final int[] FEWER = {LEAST, -1, 0, 1, 2, 3, 7, 8, 27, 28, 29, MOST - 28, MOST - 27, MOST - 1, MOST};
    private static final List<String> CHANGES = List.of("append", "cut", "change", "exchange", "set", "apply");
    private static final List<String> CALLS = List.of("append", "cut", "change", "exchange", "set", "letterAt", "same",
        "reach", "distance", "stepOf", "textAt", "scripts", "hunkOf", "movedOf", "bestChange", "count", "type",
        "fault", "apply", "clearText", "undo");
    private static final int STATES = 11;
    /** As many as look() needs, and the undo of a change. */
    private static final int CALLS_AT_THE_END = 130;

    private final int state;
    private Both both;

    private AnyArgumentsTest(int state) {
        this.state = state;
        both = made();
    }

    public static void main(String[] args) {
        Due.mustEnd();
        for (int state = 0; state < STATES; state++) {
            new AnyArgumentsTest(state).go();
        }
        Due.end();
    }

    private void go() {
        for (String name : CALLS) {
            int many = Both.parametersOf(name);
            int[] edges = many == 3 ? FEWER : EDGES;
            int all = (int) Math.pow(edges.length, many);
            for (int which = 0; which < all; which++) {
                int[] numbers = new int[many];
                int rest = which;
                for (int i = 0; i < many; i++) {
                    numbers[i] = edges[rest % edges.length];
                    rest /= edges.length;
                }
                call(name, numbers);
            }
            end();
        }
    }

    /** What a call changes is taken back, so that the next one finds the same state. */
    private void call(String name, int... numbers) {
        if (both.callsLeft() <= CALLS_AT_THE_END) {
            end();
        }
        long answer = both.call(name, numbers);
        if (answer >= 0 && CHANGES.contains(name)) {
            both.call("undo");
        }
    }

    private void end() {
        look();
        both = made();
    }

    private void look() {
        for (int what = 0; what <= 22; what++) {
            both.call("count", what);
        }
        for (int place = 0; place < 29; place++) {
            both.call("letterAt", 0, place);
            both.call("letterAt", 1, place);
        }
        for (int what = 0; what < 3; what++) {
            both.call("fault", what);
            both.call("bestChange", what);
        }
        both.call("scripts");
        for (int undone = 0; undone < 5; undone++) {
            both.call("undo");
            both.call("distance");
            both.call("count", 0);
            both.call("count", 1);
        }
    }

    private Both made() {
        Both made = new Both("state " + state);
        switch (state) {
            case 0:
                return made;
            case 1:
                return filled(made, "abcabba", "cbabac", "-2;=1;+b;=2;-1;=1;+c;");
            case 2:
                return filled(made, "a".repeat(28), "b".repeat(28), "+a;".repeat(20));
            case 3:
                return filled(made, "abcdefgh".repeat(3) + "abcd", "abcdefgh".repeat(3) + "abcd", "=28;+a;");
            case 4:
                return filled(made, "", "hgfedcba".repeat(3), "=1");
            case 5:
                return filled(made, "hgfedcba".repeat(3), "", "-22;");
            case 6:
                made.call("set", 2, 1);
                made.call("set", 1, 0);
                return filled(made, "ah".repeat(9) + "h".repeat(10), "h".repeat(10) + "ha".repeat(9), "-28;");
            case 7:
                made.call("set", 2, 9);
                made.call("set", 1, 5);
                return filled(made, "a".repeat(13) + "h".repeat(15), "h".repeat(15) + "a".repeat(13), "=15;-13;");
            case 8:
                filled(made, "ba".repeat(14), "ca".repeat(14), "=29;");
                made.call("set", 0, 27);
                return made;
            case 9:
                filled(made, "a", "h", "x");
                made.call("set", 0, 0);
                return made;
            default:
                filled(made, "abcdef", "cdefabab", "=6;+h;");
                for (int undone = 0; undone < 4; undone++) {
                    made.call("undo");
                }
                return made;
        }
    }

    private static Both filled(Both both, String first, String second, String text) {
        both.append(0, first);
        both.append(1, second);
        both.type(text);
        return both;
    }
}
