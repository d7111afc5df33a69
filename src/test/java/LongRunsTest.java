import java.util.Random;

/**
 * Runs of 512 calls, each answer compared with that of the model. The seeds are
 * fixed, so that the same runs come each time.
 */
public final class LongRunsTest {
    private static final int[] FAR = {Integer.MIN_VALUE, Integer.MIN_VALUE + 1, -57, -1, 28, 29, 56, 57, 60, 127,
        1000000, Integer.MAX_VALUE - 1, Integer.MAX_VALUE};
    private static final String SIGNS = "=-+;;abch0123456789 ix";

    private final Random random;
    private final Both both;
    private final int run;
    private final int kinds;

    private LongRunsTest(int run) {
        this.run = run;
        both = new Both("run " + run);
        random = new Random(run);
        kinds = 1 + random.nextInt(8);
    }

    public static void main(String[] args) {
        Due.mustEnd();
        for (int run = 0; run < 1500; run++) {
            new LongRunsTest(run).go();
        }
        Due.end();
    }

    private void go() {
        int style = run % 4;
        if (style != 0) {
            fillRows(style);
        }
        while (both.callsLeft() > 0) {
            if (random.nextInt(40) == 0) {
                script();
            } else {
                call(style == 1);
            }
        }
    }

    /** Rows that are alike, so that there are kept letters and moved blocks; or full ones. */
    private void fillRows(int style) {
        int many = style == 3 ? 28 : random.nextInt(29);
        int turn = many == 0 ? 0 : random.nextInt(many);
        int[] letters = new int[many];
        for (int i = 0; i < many; i++) {
            letters[i] = random.nextInt(kinds);
            both.call("append", 0, letters[i]);
        }
        boolean isApart = random.nextInt(8) == 0;
        for (int i = 0; i < many; i++) {
            int letter = random.nextInt(6) == 0 ? random.nextInt(8) : letters[(i + turn) % many];
            both.call("append", 1, isApart ? Math.min(kinds, 7) : letter);
        }
    }

    private int number(int most) {
        if (random.nextInt(25) == 0) {
            return FAR[random.nextInt(FAR.length)];
        }
        return random.nextInt(30) == 0 ? random.nextInt() : random.nextInt(most + 3) - 1;
    }

    /** Within its range but for the odd call. */
    private int near(int least, int most) {
        return random.nextInt(20) == 0 ? number(most) : least + random.nextInt(most - least + 1);
    }

    /** A script for the rows as they are, with a wrong sign now and then. */
    private void script() {
        both.call("clearText");
        boolean isLeast = random.nextBoolean();
        int left = both.model.count(0);
        for (int index = 0; isLeast && index < 60 && both.model.textAt(index) >= 0; index++) {
            both.call("type", random.nextInt(150) == 0 ? sign() : both.model.textAt(index));
        }
        for (int parts = 0; !isLeast && parts < 12 && left > 0; parts++) {
            int kind = random.nextInt(3);
            both.call("type", "=-+".charAt(kind));
            int many = 1 + random.nextInt(Math.min(left, 9));
            if (kind == 2) {
                for (int i = 0; i < many; i++) {
                    both.call("type", 'a' + near(0, 7));
                }
            } else {
                both.call("type", '0' + many);
                left -= many;
            }
            both.call("type", ';');
        }
        for (int what = 0; what < 3; what++) {
            both.call("fault", what);
        }
        both.call("apply");
    }

    private int sign() {
        return random.nextInt(5) == 0 ? number(126) : SIGNS.charAt(random.nextInt(SIGNS.length()));
    }

    private void call(boolean isCalm) {
        int which = random.nextInt(isCalm ? 16 : 22);
        if (which < 10) {
            look(which);
        } else if (which < 16) {
            ask(which - 10);
        } else {
            alter(which - 16);
        }
    }

    private void look(int which) {
        switch (which) {
            case 0:
                int edits = near(0, 56);
                int side = Math.min(Math.max(edits, 0), 56);
                both.call("reach", edits, near(-side, side));
                return;
            case 1:
                both.call("distance");
                return;
            case 2:
                both.call("stepOf", near(0, 56), near(0, 3));
                return;
            case 3:
                both.call("textAt", near(0, 70));
                return;
            case 4:
                both.call("scripts");
                return;
            case 5:
                both.call("hunkOf", near(0, 4), near(0, 4));
                return;
            case 6:
                both.call("movedOf", near(0, 5), near(0, 2));
                return;
            case 7:
                both.call("bestChange", near(0, 2));
                return;
            case 8:
                both.call("count", random.nextInt(8) == 0 ? near(19, 23) : near(0, 8));
                return;
            default:
                both.call("same", number(9), number(30));
        }
    }

    private void ask(int which) {
        switch (which) {
            case 0:
                both.call("letterAt", number(1), number(28));
                return;
            case 1:
                both.call("fault", near(0, 2));
                return;
            case 2:
                both.call("type", sign());
                return;
            case 3:
                int what = near(0, 2);
                both.call("set", what, what == 0 ? near(0, 56) : what == 1 ? near(0, 5) : near(1, 9));
                return;
            case 4:
                if (random.nextInt(8) == 0) {
                    both.call("clearText");
                }
                both.call("count", 2);
                return;
            default:
                both.call("same", near(0, 28), near(0, 28));
        }
    }

    private void alter(int which) {
        int row = near(0, 1);
        int place = near(0, 27);
        int letter = random.nextInt(20) == 0 ? number(7) : random.nextInt(kinds);
        switch (which) {
            case 0:
                int many = random.nextInt(12) == 0 ? near(1, 28) : near(1, 2);
                if (random.nextInt(3) == 0) {
                    both.call("cut", row, place, many);
                }
                return;
            case 1:
                both.call("change", row, place, letter);
                return;
            case 2:
                both.call("exchange");
                return;
            case 3:
                both.call("undo");
                return;
            case 4:
                both.call("apply");
                return;
            default:
                both.call("append", row, letter);
        }
    }
}
