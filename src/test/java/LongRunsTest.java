import java.util.Random;

/**
 * Runs of 512 calls, each answer compared with that of the model. The seeds are
 * fixed, so that the same runs come each time.
 */
public final class LongRunsTest {
    private static final int[] FAR = {Integer.MIN_VALUE, Integer.MIN_VALUE + 1, -57, -1, 28, 29, 56, 57, 60, 127,
        1000000, Integer.MAX_VALUE - 1, Integer.MAX_VALUE};
    private static final String SIGNS = "=-+;;abch0123456789 ix";

    private final Random random;
    private final DiagonalTexts x = new DiagonalTexts();
    private final Model model = new Model();
    private final int run;
    private final int kinds;
    private int calls = 0;

    private LongRunsTest(int run) {
        this.run = run;
        random = new Random(run);
        kinds = 1 + random.nextInt(8);
    }

    public static void main(String[] args) {
        for (int run = 0; run < 1500; run++) {
            new LongRunsTest(run).go();
        }
        Due.end();
    }

    private void go() {
        int style = run % 4;
        if (style != 0) {
            fillRows(style);
        }
        while (calls < 512) {
            if (random.nextInt(40) == 0) {
                script();
            } else {
                call(style == 1);
            }
        }
    }

    /** Rows that are alike, so that there are kept letters and moved blocks; or full ones. */
    private void fillRows(int style) {
        int many = style == 3 ? 28 : random.nextInt(29);
        int turn = many == 0 ? 0 : random.nextInt(many);
        int[] letters = new int[many];
        for (int i = 0; i < many; i++) {
            letters[i] = random.nextInt(kinds);
            due("append(0, " + letters[i] + ")", x.append(0, letters[i]), model.append(0, letters[i]));
        }
        boolean isApart = random.nextInt(8) == 0;
        for (int i = 0; i < many; i++) {
            int letter = random.nextInt(6) == 0 ? random.nextInt(8) : letters[(i + turn) % many];
            letter = isApart ? Math.min(kinds, 7) : letter;
            due("append(1, " + letter + ")", x.append(1, letter), model.append(1, letter));
        }
    }

    private void due(String call, long got, long want) {
        calls++;
        Due.is("run " + run + ", call " + calls + ": " + call, got, want);
    }

    private int number(int most) {
        if (random.nextInt(25) == 0) {
            return FAR[random.nextInt(FAR.length)];
        }
        return random.nextInt(30) == 0 ? random.nextInt() : random.nextInt(most + 3) - 1;
    }

    /** Within its range but for the odd call. */
    private int near(int least, int most) {
        return random.nextInt(20) == 0 ? number(most) : least + random.nextInt(most - least + 1);
    }

    private void type(int character) {
        due("type(" + character + ")", x.type(character), model.type(character));
    }

    /** A script for the rows as they are, with a wrong sign now and then. */
    private void script() {
        due("clearText()", x.clearText(), model.clearText());
        boolean isLeast = random.nextBoolean();
        int left = model.count(0);
        for (int index = 0; isLeast && index < 60 && model.textAt(index) >= 0; index++) {
            type(random.nextInt(150) == 0 ? sign() : model.textAt(index));
        }
        for (int parts = 0; !isLeast && parts < 12 && left > 0; parts++) {
            int kind = random.nextInt(3);
            type("=-+".charAt(kind));
            int many = 1 + random.nextInt(Math.min(left, 9));
            if (kind == 2) {
                for (int i = 0; i < many; i++) {
                    type('a' + near(0, 7));
                }
            } else {
                type('0' + many);
                left -= many;
            }
            type(';');
        }
        for (int what = 0; what < 3; what++) {
            due("fault(" + what + ")", x.fault(what), model.fault(what));
        }
        due("apply()", x.apply(), model.apply());
    }

    private int sign() {
        return random.nextInt(5) == 0 ? number(126) : SIGNS.charAt(random.nextInt(SIGNS.length()));
    }

    private void call(boolean isCalm) {
        int which = random.nextInt(isCalm ? 16 : 22);
        if (which < 10) {
            look(which);
        } else if (which < 16) {
            ask(which - 10);
        } else {
            alter(which - 16);
        }
    }

    private void look(int which) {
        int a = number(9);
        int b = number(30);
        switch (which) {
            case 0:
                a = near(0, 56);
                int side = Math.min(Math.max(a, 0), 56);
                b = near(-side, side);
                due("reach(" + a + ", " + b + ")", x.reach(a, b), model.reach(a, b));
                return;
            case 1:
                due("distance()", x.distance(), model.distance());
                return;
            case 2:
                a = near(0, 56);
                b = near(0, 3);
                due("stepOf(" + a + ", " + b + ")", x.stepOf(a, b), model.stepOf(a, b));
                return;
            case 3:
                a = near(0, 70);
                due("textAt(" + a + ")", x.textAt(a), model.textAt(a));
                return;
            case 4:
                due("scripts()", x.scripts(), model.scripts());
                return;
            case 5:
                a = near(0, 4);
                b = near(0, 4);
                due("hunkOf(" + a + ", " + b + ")", x.hunkOf(a, b), model.hunkOf(a, b));
                return;
            case 6:
                a = near(0, 5);
                b = near(0, 2);
                due("movedOf(" + a + ", " + b + ")", x.movedOf(a, b), model.movedOf(a, b));
                return;
            case 7:
                a = near(0, 2);
                due("bestChange(" + a + ")", x.bestChange(a), model.bestChange(a));
                return;
            case 8:
                a = random.nextInt(8) == 0 ? near(19, 23) : near(0, 8);
                due("count(" + a + ")", x.count(a), model.count(a));
                return;
            default:
                due("same(" + a + ", " + b + ")", x.same(a, b), model.same(a, b));
        }
    }

    private void ask(int which) {
        int a = number(1);
        int b = number(28);
        switch (which) {
            case 0:
                due("letterAt(" + a + ", " + b + ")", x.letterAt(a, b), model.letterAt(a, b));
                return;
            case 1:
                a = near(0, 2);
                due("fault(" + a + ")", x.fault(a), model.fault(a));
                return;
            case 2:
                type(sign());
                return;
            case 3:
                a = near(0, 2);
                b = a == 0 ? near(0, 56) : a == 1 ? near(0, 5) : near(1, 9);
                due("set(" + a + ", " + b + ")", x.set(a, b), model.set(a, b));
                return;
            case 4:
                if (random.nextInt(8) == 0) {
                    due("clearText()", x.clearText(), model.clearText());
                }
                due("count(2)", x.count(2), model.count(2));
                return;
            default:
                a = near(0, 28);
                b = near(0, 28);
                due("same(" + a + ", " + b + ")", x.same(a, b), model.same(a, b));
        }
    }

    private void alter(int which) {
        int row = near(0, 1);
        int place = near(0, 27);
        int letter = random.nextInt(20) == 0 ? number(7) : random.nextInt(kinds);
        switch (which) {
            case 0:
                int many = random.nextInt(12) == 0 ? near(1, 28) : near(1, 2);
                if (random.nextInt(3) == 0) {
                    due("cut(" + row + ", " + place + ", " + many + ")",
                            x.cut(row, place, many), model.cut(row, place, many));
                }
                return;
            case 1:
                due("change(" + row + ", " + place + ", " + letter + ")",
                        x.change(row, place, letter), model.change(row, place, letter));
                return;
            case 2:
                due("exchange()", x.exchange(), model.exchange());
                return;
            case 3:
                due("undo()", x.undo(), model.undo());
                return;
            case 4:
                due("apply()", x.apply(), model.apply());
                return;
            default:
                due("append(" + row + ", " + letter + ")", x.append(row, letter), model.append(row, letter));
        }
    }
}
