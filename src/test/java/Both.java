/**
 * An object of the program and one of the model, on which the same calls are
 * made: 512 at most, what comes behind them is free.
 */
final class Both {
    private static final int MOST_CALLS = 512;
    private static final Caller PROGRAM = new Caller(DiagonalTexts.class);
    private static final Caller MODEL = new Caller(Model.class);

    final Model model = new Model();
    private final DiagonalTexts program = new DiagonalTexts();
    private final String of;
    private int calls = 0;

    Both(String of) {
        this.of = of;
    }

    static int parametersOf(String call) {
        return PROGRAM.parametersOf(call);
    }

    int callsLeft() {
        return MOST_CALLS - calls;
    }

    /** Returns the answer that is due, also when the object is used up and no call is made. */
    long call(String name, int... numbers) {
        long due = MODEL.answer(model, name, numbers);
        if (calls < MOST_CALLS) {
            calls++;
            String told = of + ", call " + calls + ": " + Caller.told(name, numbers);
            try {
                Due.is(told, PROGRAM.answer(program, name, numbers), due);
            } catch (IllegalStateException thrown) {
                Due.is(told + ": " + thrown.getMessage(), 0, 1);
            }
        }
        return due;
    }

    void append(int row, String letters) {
        for (int i = 0; i < letters.length(); i++) {
            call("append", row, letters.charAt(i) - 'a');
        }
    }

    void type(String text) {
        for (int i = 0; i < text.length(); i++) {
            call("type", text.charAt(i));
        }
    }
}
