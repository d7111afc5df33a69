/** What the project's tests share: the answers that are due, and rows and texts put in at one go. */
final class Due {
    static final int INVALID_ARGUMENT = -1000001;
    static final int NOT_POSSIBLE = -1000002;
    static final int LIMIT_REACHED = -1000003;
    static final int NOT_FOUND = -1000004;
    /** Far more than any test needs. */
    private static final int MOST_SECONDS = 300;

    private static int compared = 0;
    private static int wrong = 0;

    private Due() {
    }

    static void is(String call, long got, long want) {
        compared++;
        if (got != want) {
            wrong++;
            // a run that went wrong once may go on wrong: the first rows tell enough
            if (wrong <= 50) {
                System.out.println(call + " answered " + got + ", due is " + want);
            }
        }
    }

    /** A call that fails to end is found, too: the test ends itself then. */
    static void mustEnd() {
        Thread watch = new Thread(() -> {
            try {
                Thread.sleep(MOST_SECONDS * 1000L);
            } catch (InterruptedException nobodyDoes) {
                return;
            }
            System.out.println("the test did not end in " + MOST_SECONDS + " seconds");
            Runtime.getRuntime().halt(1);
        });
        watch.setDaemon(true);
        watch.start();
    }

    static void end() {
        System.out.println(compared + " answers compared, " + wrong + " not as due");
        if (wrong != 0 || compared == 0) {
            System.exit(1);
        }
    }

    static DiagonalTexts rows(String first, String second) {
        DiagonalTexts x = new DiagonalTexts();
        for (int i = 0; i < first.length(); i++) {
            is("append to the first row", x.append(0, first.charAt(i) - 'a'), i + 1);
        }
        for (int i = 0; i < second.length(); i++) {
            is("append to the second row", x.append(1, second.charAt(i) - 'a'), i + 1);
        }
        return x;
    }

    static void type(DiagonalTexts x, String text) {
        x.clearText();
        for (int i = 0; i < text.length(); i++) {
            is("type", x.type(text.charAt(i)), i + 1);
        }
    }

    static void text(String of, DiagonalTexts x, String want) {
        for (int i = 0; i < want.length(); i++) {
            is(of + " textAt(" + i + ")", x.textAt(i), want.charAt(i));
        }
        is(of + " textAt at its end", x.textAt(want.length()), NOT_FOUND);
    }

    static void row(String of, DiagonalTexts x, int row, String want) {
        is(of + " length of row " + row, x.count(row), want.length());
        for (int i = 0; i < want.length(); i++) {
            is(of + " letterAt(" + row + ", " + i + ")", x.letterAt(row, i), want.charAt(i) - 'a');
        }
        is(of + " letterAt at the end of row " + row, x.letterAt(row, want.length()), NOT_FOUND);
    }

    static String many(String part, int times) {
        return part.repeat(times);
    }
}
