/** For each promise what the document says of it, its edges, and wrong inputs. */
public final class PromisesTest {
    private static final int INVALID = Due.INVALID_ARGUMENT;
    private static final int IMPOSSIBLE = Due.NOT_POSSIBLE;
    private static final int LIMIT = Due.LIMIT_REACHED;
    private static final int MISSING = Due.NOT_FOUND;
    private static final int LEAST = Integer.MIN_VALUE;
    private static final int MOST = Integer.MAX_VALUE;
    /** The example of the first shared run: its least script is -2;=1;+b;=2;-1;=1;+c; */
    private static final String FIRST = "abcabba";
    private static final String SECOND = "cbabac";

    public static void main(String[] args) {
        Due.mustEnd();
        newObject();
        append();
        cut();
        change();
        exchange();
        set();
        letterAt();
        same();
        reach();
        distance();
        stepOf();
        textAt();
        scripts();
        hunkOf();
        movedOf();
        bestChange();
        count();
        undo();
        type();
        clearText();
        faultForm();
        faultLetters();
        apply();
        Due.end();
    }

    // 1
    private static void newObject() {
        DiagonalTexts x = new DiagonalTexts();
        Due.row("1", x, 0, "");
        Due.row("1", x, 1, "");
        for (int what = 0; what <= 8; what++) {
            Due.is("1 count(" + what + ")", x.count(what), 0);
        }
        Due.is("1 limit", x.count(20), 56);
        Due.is("1 letters around", x.count(21), 1);
        Due.is("1 least block", x.count(22), 2);
        Due.is("1 undo", x.undo(), IMPOSSIBLE);
        DiagonalTexts other = Due.rows("abc", "d");
        Due.is("1 objects stand alone", x.count(0), 0);
        Due.is("1 objects stand alone", other.count(0), 3);
    }

    // 2
    private static void append() {
        DiagonalTexts x = new DiagonalTexts();
        int[][] wrong = {{-1, 0}, {2, 0}, {0, -1}, {0, 8}, {1, 8}, {LEAST, 0}, {MOST, 0}, {0, LEAST}, {1, MOST}};
        for (int[] call : wrong) {
            Due.is("2 append " + call[0] + " " + call[1], x.append(call[0], call[1]), INVALID);
        }
        Due.is("2 an error records nothing", x.count(7), 0);
        for (int i = 0; i < 28; i++) {
            Due.is("2 append", x.append(1, i % 8), i + 1);
        }
        Due.is("2 first row apart", x.count(0), 0);
        Due.is("2 append to a full row", x.append(1, 0), LIMIT);
        Due.is("2 a wrong letter comes first", x.append(1, 8), INVALID);
        Due.is("2 the other row has room", x.append(0, 7), 1);
        Due.is("2 letter", x.letterAt(1, 27), 3);
        Due.is("2 undo", x.undo(), 3);
        Due.row("2", x, 0, "");
    }

    // 3
    private static void cut() {
        DiagonalTexts x = Due.rows("abcdef", "gh");
        int[][] wrong = {{-1, 0, 1}, {2, 0, 1}, {0, -1, 1}, {0, 0, 0}, {0, 0, 29}, {0, 0, -1},
            {LEAST, 0, 1}, {0, LEAST, 1}, {0, 0, MOST}, {0, 0, LEAST}, {0, MOST, 29}};
        for (int[] call : wrong) {
            Due.is("3 cut " + call[0] + " " + call[1] + " " + call[2], x.cut(call[0], call[1], call[2]), INVALID);
        }
        int[][] impossible = {{0, 6, 1}, {0, 0, 7}, {0, 5, 2}, {1, 2, 1}, {1, 0, 28}, {0, MOST, 1}, {0, MOST, 28}};
        for (int[] call : impossible) {
            Due.is("3 cut " + call[0] + " " + call[1] + " " + call[2], x.cut(call[0], call[1], call[2]), IMPOSSIBLE);
        }
        Due.row("3 unchanged", x, 0, "abcdef");
        Due.is("3 cut in the middle", x.cut(0, 1, 3), 3);
        Due.row("3", x, 0, "aef");
        Due.is("3 cut at the end", x.cut(0, 2, 1), 2);
        Due.row("3", x, 0, "ae");
        Due.is("3 cut at the beginning", x.cut(0, 0, 1), 1);
        Due.row("3", x, 0, "e");
        Due.row("3 the other row stays", x, 1, "gh");
        Due.is("3 cut all", x.cut(1, 0, 2), 0);
        Due.row("3", x, 1, "");
        Due.is("3 undo", x.undo(), 3);
        Due.row("3", x, 1, "gh");
        DiagonalTexts full = Due.rows(Due.many("abcd", 7), "");
        Due.is("3 cut 28", full.cut(0, 0, 28), 0);
        Due.row("3", full, 0, "");
    }

    // 4
    private static void change() {
        DiagonalTexts x = Due.rows("abc", "de");
        int[][] wrong = {{-1, 0, 0}, {2, 0, 0}, {0, -1, 0}, {0, 3, 0}, {1, 2, 0}, {0, 0, -1}, {0, 0, 8},
            {0, MOST, 0}, {0, LEAST, 0}, {0, 0, MOST}, {LEAST, 0, 0}};
        for (int[] call : wrong) {
            Due.is("4 change " + call[0] + " " + call[1] + " " + call[2], x.change(call[0], call[1], call[2]), INVALID);
        }
        Due.is("4 change", x.change(0, 2, 7), 2);
        Due.row("4", x, 0, "abh");
        Due.is("4 change again", x.change(0, 2, 0), 7);
        Due.is("4 change to the same is a change", x.change(1, 0, 3), 3);
        Due.row("4", x, 1, "de");
        Due.is("4 undo", x.undo(), 3);
        Due.is("4 undo", x.undo(), 2);
        Due.row("4", x, 0, "abh");
        Due.is("4 in an empty row", new DiagonalTexts().change(0, 0, 0), INVALID);
    }

    // 5
    private static void exchange() {
        DiagonalTexts x = Due.rows("abc", "de");
        Due.is("5 exchange", x.exchange(), 2);
        Due.row("5", x, 0, "de");
        Due.row("5", x, 1, "abc");
        Due.is("5 append behind it", x.append(0, 5), 3);
        Due.row("5", x, 0, "def");
        Due.is("5 exchange back", x.exchange(), 3);
        Due.row("5", x, 0, "abc");
        Due.is("5 undo", x.undo(), 3);
        Due.is("5 undo", x.undo(), 2);
        Due.row("5", x, 0, "de");
        Due.is("5 undo", x.undo(), 1);
        Due.row("5", x, 0, "abc");
        Due.row("5", x, 1, "de");
    }

    // 6
    private static void set() {
        DiagonalTexts x = new DiagonalTexts();
        int[][] wrong = {{-1, 1}, {3, 1}, {0, -1}, {0, 57}, {1, -1}, {1, 6}, {2, 0}, {2, 10},
            {LEAST, 1}, {MOST, 1}, {0, LEAST}, {1, MOST}};
        for (int[] call : wrong) {
            Due.is("6 set " + call[0] + " " + call[1], x.set(call[0], call[1]), INVALID);
        }
        Due.is("6 an error records nothing", x.count(7), 0);
        Due.is("6 limit", x.set(0, 0), 56);
        Due.is("6 limit", x.set(0, 56), 0);
        Due.is("6 around", x.set(1, 5), 1);
        Due.is("6 around", x.set(1, 0), 5);
        Due.is("6 block", x.set(2, 9), 2);
        Due.is("6 block", x.set(2, 1), 9);
        Due.is("6 to the same is a change, four are kept", x.count(7), 4);
        Due.is("6 undo", x.undo(), 3);
        Due.is("6 undo gives it back", x.count(22), 9);
        Due.is("6 undo", x.undo(), 2);
        Due.is("6 undo gives it back", x.count(22), 2);
        Due.is("6 undo", x.undo(), 1);
        Due.is("6 undo gives it back", x.count(21), 5);
    }

    // 7
    private static void letterAt() {
        DiagonalTexts x = Due.rows("hb", "c");
        int[][] wrong = {{-1, 0}, {2, 0}, {0, -1}, {LEAST, 0}, {MOST, 0}, {1, LEAST}};
        for (int[] call : wrong) {
            Due.is("7 letterAt " + call[0] + " " + call[1], x.letterAt(call[0], call[1]), INVALID);
        }
        Due.is("7 letterAt", x.letterAt(0, 0), 7);
        Due.is("7 letterAt", x.letterAt(0, 1), 1);
        Due.is("7 letterAt", x.letterAt(1, 0), 2);
        Due.is("7 behind the row", x.letterAt(0, 2), MISSING);
        Due.is("7 behind the row", x.letterAt(1, 1), MISSING);
        Due.is("7 far behind the row", x.letterAt(1, MOST), MISSING);
        x.cut(0, 0, 1);
        Due.is("7 where a letter stood", x.letterAt(0, 1), MISSING);
    }

    // 8
    private static void same() {
        DiagonalTexts x = Due.rows("abcab", "abab");
        int[][] wrong = {{-1, 0}, {0, -1}, {6, 0}, {0, 5}, {LEAST, 0}, {0, MOST}};
        for (int[] call : wrong) {
            Due.is("8 same " + call[0] + " " + call[1], x.same(call[0], call[1]), INVALID);
        }
        Due.is("8 stops at another letter", x.same(0, 0), 2);
        Due.is("8 stops at the end of the first row", x.same(3, 0), 2);
        Due.is("8 stops at the end of the second row", x.same(0, 2), 2);
        Due.is("8 none", x.same(0, 1), 0);
        Due.is("8 at both ends", x.same(5, 4), 0);
        Due.is("8 at the first one's end", x.same(5, 0), 0);
        DiagonalTexts full = Due.rows(Due.many("a", 28), Due.many("a", 28));
        Due.is("8 all", full.same(0, 0), 28);
        Due.is("8 less", full.same(3, 10), 18);
    }

    // 9
    private static void reach() {
        DiagonalTexts x = Due.rows("a", "b");
        int[][] told = {{0, 0, 0}, {1, -1, 0}, {1, 1, 1}, {2, -2, 0}, {2, 0, 1}, {2, 2, 2}};
        for (int[] call : told) {
            Due.is("9 reach " + call[0] + " " + call[1], x.reach(call[0], call[1]), call[2]);
        }
        int[][] missing = {{0, 1}, {0, -1}, {1, 0}, {1, 3}, {1, -3}, {2, 1}, {2, 4}, {3, 1}, {4, 0}, {56, 56}};
        for (int[] call : missing) {
            Due.is("9 reach " + call[0] + " " + call[1], x.reach(call[0], call[1]), MISSING);
        }
        int[][] wrong = {{-1, 0}, {57, 0}, {0, -57}, {0, 57}, {LEAST, 0}, {MOST, 0}, {0, LEAST}, {0, MOST}};
        for (int[] call : wrong) {
            Due.is("9 reach " + call[0] + " " + call[1], x.reach(call[0], call[1]), INVALID);
        }
        DiagonalTexts kept = Due.rows("aab", "aab");
        Due.is("9 letters kept without an edit", kept.reach(0, 0), 3);
        Due.is("9 above the distance", kept.reach(1, 1), MISSING);
        DiagonalTexts told2 = Due.rows(FIRST, SECOND);
        // by the rule: 2 edits on 0 come from 1 on 1 (x 1, put in), and keep b
        int[][] example = {{0, 0, 0}, {1, -1, 0}, {1, 1, 1}, {2, -2, 2}, {2, 0, 2}, {2, 2, 3}};
        for (int[] call : example) {
            Due.is("9 reach " + call[0] + " " + call[1], told2.reach(call[0], call[1]), call[2]);
        }
        told2.set(0, 0);
        Due.is("9 whatever the limit is", told2.reach(5, 1), 7);
        DiagonalTexts far = Due.rows(Due.many("a", 28), Due.many("b", 28));
        Due.is("9 farthest", far.reach(56, 56), 56);
        Due.is("9 farthest", far.reach(56, -56), 0);
        Due.is("9 farthest", far.reach(56, 0), 28);
    }

    // 10
    private static void distance() {
        Due.is("10 both empty", Due.rows("", "").distance(), 0);
        Due.is("10 first empty", Due.rows("", "abc").distance(), 3);
        Due.is("10 second empty", Due.rows("abc", "").distance(), 3);
        Due.is("10 the same", Due.rows("abc", "abc").distance(), 0);
        Due.is("10 one letter other", Due.rows("abc", "adc").distance(), 2);
        DiagonalTexts x = Due.rows(Due.many("a", 28), Due.many("b", 28));
        Due.is("10 the most", x.distance(), 56);
        x.set(0, 55);
        Due.is("10 above the limit", x.distance(), LIMIT);
        DiagonalTexts example = Due.rows(FIRST, SECOND);
        example.set(0, 5);
        Due.is("10 at the limit", example.distance(), 5);
        example.set(0, 4);
        Due.is("10 above the limit", example.distance(), LIMIT);
        example.undo();
        Due.is("10 after undo", example.distance(), 5);
        DiagonalTexts none = Due.rows("a", "a");
        none.set(0, 0);
        Due.is("10 0 at the limit 0", none.distance(), 0);
    }

    // 11
    private static void stepOf() {
        DiagonalTexts x = Due.rows(FIRST, SECOND);
        int[][] steps = {{1, 0, 0, 0}, {1, 1, 1, 0}, {0, 2, 2, 0}, {2, 1, 3, 1}, {0, 0, 3, 2},
            {0, 1, 4, 3}, {1, 1, 5, 4}, {0, 0, 6, 4}, {2, 2, 7, 5}};
        for (int step = 0; step < steps.length; step++) {
            for (int what = 0; what < 4; what++) {
                Due.is("11 stepOf " + step + " " + what, x.stepOf(step, what), steps[step][what]);
            }
        }
        Due.is("11 behind the last", x.stepOf(9, 3), MISSING);
        Due.is("11 far behind the last", x.stepOf(MOST, 0), MISSING);
        int[][] wrong = {{-1, 0}, {0, -1}, {0, 4}, {LEAST, 0}, {0, MOST}, {0, LEAST}};
        for (int[] call : wrong) {
            Due.is("11 stepOf " + call[0] + " " + call[1], x.stepOf(call[0], call[1]), INVALID);
        }
        x.set(0, 4);
        Due.is("11 above the limit", x.stepOf(0, 0), LIMIT);
        Due.is("11 the limit comes before what is missing", x.stepOf(99, 0), LIMIT);
        Due.is("11 a wrong argument comes before the limit", x.stepOf(0, 4), INVALID);
        DiagonalTexts long1 = Due.rows(Due.many("a", 28), Due.many("b", 28));
        Due.is("11 first of 56", long1.stepOf(0, 0), 1);
        Due.is("11 last of 56", long1.stepOf(55, 0), 2);
        Due.is("11 behind them", long1.stepOf(56, 0), MISSING);
    }

    // 12
    private static void textAt() {
        DiagonalTexts x = Due.rows(FIRST, SECOND);
        Due.text("12", x, "-2;=1;+b;=2;-1;=1;+c;");
        Due.is("12 negative", x.textAt(-1), INVALID);
        Due.is("12 negative", x.textAt(LEAST), INVALID);
        Due.is("12 far", x.textAt(MOST), MISSING);
        x.set(0, 4);
        Due.is("12 above the limit", x.textAt(0), LIMIT);
        Due.is("12 the limit comes before what is missing", x.textAt(999), LIMIT);
        Due.is("12 a wrong argument comes before the limit", x.textAt(-1), INVALID);
        Due.text("12 both empty", Due.rows("", ""), "");
        Due.text("12 kept", Due.rows("abc", "abc"), "=3;");
        Due.text("12 put in", Due.rows("", "hgfa"), "+hgfa;");
        Due.text("12 two digits", Due.rows(Due.many("a", 10), ""), "-10;");
        Due.text("12 two digits", Due.rows(Due.many("ab", 14), Due.many("ab", 14)), "=28;");
        Due.text("12 longest row", Due.rows("", Due.many("abcdefgh", 3)), "+abcdefghabcdefghabcdefgh;");
        Due.text("12 on equal reaches a letter is taken out last", Due.rows("ab", "ba"), "-1;=1;+a;");
        Due.text("12 letters kept between edits of both kinds", Due.rows("acaca", "abaeafa"),
                "=1;-1;+b;=1;-1;+e;=1;+fa;");
        Due.text("12 a text longer than a typed one", Due.rows(Due.many("bba", 9), Due.many("cca", 9)),
                Due.many("-2;+cc;=1;", 9));
    }

    // 13
    private static void scripts() {
        Due.is("13 both empty", Due.rows("", "").scripts(), 1);
        Due.is("13 the same", Due.rows("abab", "abab").scripts(), 1);
        Due.is("13 another letter", Due.rows("a", "b").scripts(), 2);
        Due.is("13 2 and 2", Due.rows("ab", "cd").scripts(), 6);
        Due.is("13 which a", Due.rows("aab", "ab").scripts(), 2);
        Due.is("13 either a or b is kept", Due.rows("ab", "ba").scripts(), 2);
        Due.is("13 example", Due.rows(FIRST, SECOND).scripts(), 7);
        DiagonalTexts most = Due.rows(Due.many("a", 28), Due.many("b", 28));
        Due.is("13 56 over 28", most.scripts(), 7648690600760440L);
        most.set(0, 0);
        Due.is("13 whatever the limit is", most.scripts(), 7648690600760440L);
        Due.is("13 28 over 14", Due.rows(Due.many("a", 28), Due.many("a", 14)).scripts(), 40116600L);
        most.cut(0, 1, 27);
        most.cut(1, 1, 27);
        Due.is("13 shorter rows behind longer ones", most.scripts(), 2);
    }

    private static void hunk(String of, DiagonalTexts x, int hunk, int[] want) {
        for (int what = 0; what < 5; what++) {
            Due.is(of + " hunkOf " + hunk + " " + what, x.hunkOf(hunk, what), want[what]);
        }
    }

    // 14
    private static void hunkOf() {
        DiagonalTexts x = Due.rows("abbbc", "bbb");
        Due.is("14 3 kept between are too many for 1 around", x.count(4), 2);
        hunk("14", x, 0, new int[] {0, 2, 0, 1, 1});
        hunk("14", x, 1, new int[] {3, 2, 2, 1, 1});
        Due.is("14 no third one", x.hunkOf(2, 0), MISSING);
        x.set(1, 2);
        Due.is("14 3 kept between are not too many for 2 around", x.count(4), 1);
        hunk("14", x, 0, new int[] {0, 5, 0, 3, 2});
        x.set(1, 0);
        hunk("14 nothing around", x, 0, new int[] {0, 1, 0, 0, 1});
        hunk("14 nothing around", x, 1, new int[] {4, 1, 3, 0, 1});
        DiagonalTexts two = Due.rows("abbc", "bb");
        Due.is("14 2 kept between are not too many for 1 around", two.count(4), 1);
        DiagonalTexts middle = Due.rows("abcdefg", "abchefg");
        middle.set(1, 2);
        hunk("14 around in the middle", middle, 0, new int[] {1, 5, 1, 5, 2});
        middle.set(1, 5);
        hunk("14 the rows end", middle, 0, new int[] {0, 7, 0, 7, 2});
        int[][] wrong = {{-1, 0}, {0, -1}, {0, 5}, {LEAST, 0}, {0, MOST}};
        for (int[] call : wrong) {
            Due.is("14 hunkOf " + call[0] + " " + call[1], middle.hunkOf(call[0], call[1]), INVALID);
        }
        Due.is("14 far", middle.hunkOf(MOST, 0), MISSING);
        middle.set(0, 1);
        Due.is("14 above the limit", middle.hunkOf(0, 0), LIMIT);
        Due.is("14 the limit comes before what is missing", middle.hunkOf(9, 0), LIMIT);
        Due.is("14 a wrong argument comes before the limit", middle.hunkOf(0, 5), INVALID);
        DiagonalTexts far = Due.rows(Due.many("a", 28), Due.many("b", 28));
        hunk("14 56 edits", far, 0, new int[] {0, 28, 0, 28, 56});
        DiagonalTexts many = Due.rows(Due.many("ah", 14), Due.many("h", 14));
        many.set(1, 0);
        Due.is("14 a hunk for each a", many.count(4), 14);
        hunk("14 the last of 14", many, 13, new int[] {26, 1, 13, 0, 1});
        Due.is("14 no edits, no hunk", Due.rows("abc", "abc").hunkOf(0, 0), MISSING);
    }

    private static void moved(String of, DiagonalTexts x, int[][] want) {
        Due.is(of + " blocks", x.count(5), want.length);
        for (int block = 0; block < want.length; block++) {
            for (int what = 0; what < 3; what++) {
                Due.is(of + " movedOf " + block + " " + what, x.movedOf(block, what), want[block][what]);
            }
        }
        Due.is(of + " no more", x.movedOf(want.length, 0), MISSING);
    }

    // 15
    private static void movedOf() {
        moved("15 letters in common", Due.rows("abcdef", "cdefabab"), new int[][] {{2, 0, 4}, {2, 0, 6}});
        DiagonalTexts x = Due.rows("hcccccab", "abccccch");
        moved("15 at least 2", x, new int[][] {{2, 6, 0}});
        x.set(2, 1);
        moved("15 the longest first", x, new int[][] {{2, 6, 0}, {1, 0, 7}});
        x.set(2, 3);
        moved("15 at least 3", x, new int[][] {});
        // taken out: abc, put in: ab and bc apart
        DiagonalTexts parts = Due.rows("abcddddd", "dddabddbc");
        parts.set(2, 1);
        moved("15 parts of a longer row", parts, new int[][] {{2, 0, 3}, {2, 1, 7}});
        int[][] wrong = {{-1, 0}, {0, -1}, {0, 3}, {LEAST, 0}, {0, MOST}};
        for (int[] call : wrong) {
            Due.is("15 movedOf " + call[0] + " " + call[1], parts.movedOf(call[0], call[1]), INVALID);
        }
        Due.is("15 far", parts.movedOf(MOST, 0), MISSING);
        parts.set(0, 1);
        Due.is("15 above the limit", parts.movedOf(0, 0), LIMIT);
        Due.is("15 a wrong argument comes before the limit", parts.movedOf(0, 3), INVALID);
        moved("15 nothing taken out", Due.rows("", "abab"), new int[][] {});
        DiagonalTexts apart = Due.rows("acb" + "dddd", "dddd" + "ab");
        // a, c, b are taken out in one row; a and b are put in in one row, but not in that order
        moved("15 not one right behind another", apart, new int[][] {});
        apart.set(2, 1);
        moved("15 one letter each", apart, new int[][] {{1, 0, 4}, {1, 2, 5}});
        DiagonalTexts again = Due.rows("abcabcabc" + Due.many("h", 10), Due.many("h", 10) + "abcabcabc");
        again.set(2, 9);
        moved("15 as many as the setting", again, new int[][] {{9, 0, 10}});
        again.set(2, 6);
        moved("15 of the same length by the place in the first row", again,
                new int[][] {{9, 0, 10}, {6, 0, 13}, {6, 3, 10}});
    }

    private static void best(String of, DiagonalTexts x, int place, int letter, int distance) {
        Due.is(of + " place", x.bestChange(0), place);
        Due.is(of + " letter", x.bestChange(1), letter);
        Due.is(of + " distance", x.bestChange(2), distance);
    }

    // 16
    private static void bestChange() {
        best("16 example", Due.rows(FIRST, SECOND), 0, 2, 3);
        best("16 one letter", Due.rows("abc", "adc"), 1, 3, 0);
        best("16 the lowest place", Due.rows("hh", "ab"), 0, 0, 2);
        best("16 the lowest letter", Due.rows("h", "ca"), 0, 0, 1);
        best("16 the place before the letter", Due.rows("hb", "cba"), 0, 2, 1);
        int[] wrong = {-1, 3, LEAST, MOST};
        DiagonalTexts x = Due.rows("h", "a");
        for (int what : wrong) {
            Due.is("16 bestChange " + what, x.bestChange(what), INVALID);
        }
        x.set(0, 0);
        best("16 whatever the limit is", x, 0, 0, 0);
        DiagonalTexts[] none = {Due.rows("", ""), Due.rows("", "a"), Due.rows("a", ""),
            Due.rows("abc", "abc"), Due.rows("ab", "a")};
        for (DiagonalTexts y : none) {
            for (int what = 0; what < 3; what++) {
                Due.is("16 none", y.bestChange(what), MISSING);
            }
        }
        Due.row("16 the row stays", x, 0, "h");
        Due.is("16 it is no change", x.count(7), 3);
    }

    // 17
    private static void count() {
        DiagonalTexts x = Due.rows(FIRST, SECOND);
        // 6: ab and ba stand in both rows, no three letters do
        int[] wants = {7, 6, 9, 4, 1, 0, 2, 4, 0};
        for (int what = 0; what < wants.length; what++) {
            Due.is("17 count " + what, x.count(what), wants[what]);
        }
        int[] wrong = {-1, 9, 19, 23, LEAST, MOST, 10};
        for (int what : wrong) {
            Due.is("17 count " + what, x.count(what), INVALID);
        }
        x.set(0, 4);
        for (int what = 2; what <= 5; what++) {
            Due.is("17 above the limit " + what, x.count(what), LIMIT);
        }
        Due.is("17 whatever the limit is", x.count(6), 2);
        x.set(1, 3);
        x.set(2, 7);
        Due.is("17 limit", x.count(20), 4);
        Due.is("17 around", x.count(21), 3);
        Due.is("17 block", x.count(22), 7);
        Due.type(x, "abc");
        Due.is("17 text", x.count(8), 3);
        Due.is("17 one right behind another", Due.rows("abc", "adbec").count(6), 1);
        Due.is("17 in the middle", Due.rows("habcdg", "fabcde").count(6), 4);
        Due.is("17 at the ends", Due.rows("habc", "abcd").count(6), 3);
        Due.is("17 nothing", Due.rows("abc", "def").count(6), 0);
        Due.is("17 all", Due.rows(Due.many("a", 28), Due.many("a", 28)).count(6), 28);
        Due.is("17 no edits", Due.rows("abc", "abc").count(4), 0);
    }

    // 18
    private static void undo() {
        DiagonalTexts x = new DiagonalTexts();
        Due.is("18 empty", x.undo(), IMPOSSIBLE);
        for (int i = 0; i < 6; i++) {
            x.append(0, i);
            Due.is("18 states", x.count(7), Math.min(i + 1, 4));
        }
        for (int i = 0; i < 4; i++) {
            Due.is("18 undo", x.undo(), 3 - i);
            Due.is("18 letters", x.count(0), 5 - i);
        }
        Due.is("18 the oldest ones are gone", x.undo(), IMPOSSIBLE);
        Due.row("18", x, 0, "ab");
        Due.type(x, "=2;+c;");
        x.apply();
        x.set(1, 4);
        x.type('x');
        Due.is("18 undo set", x.undo(), 1);
        Due.is("18 setting", x.count(21), 1);
        Due.is("18 the text stays", x.count(8), 7);
        Due.row("18 applied", x, 1, "abc");
        Due.is("18 undo apply", x.undo(), 0);
        Due.row("18", x, 1, "");
        Due.row("18", x, 0, "ab");
        Due.is("18 the text stays", x.count(8), 7);
        Due.is("18 nothing left", x.undo(), IMPOSSIBLE);
        x.append(2, 0);
        x.cut(0, 5, 1);
        x.change(0, 9, 0);
        x.set(0, 99);
        x.apply();
        Due.is("18 errors are no changes", x.count(7), 0);
        x.exchange();
        x.change(1, 0, 7);
        Due.is("18 undo change", x.undo(), 1);
        Due.row("18", x, 1, "ab");
        Due.is("18 undo exchange", x.undo(), 0);
        Due.row("18", x, 0, "ab");
    }

    // 19
    private static void type() {
        DiagonalTexts x = new DiagonalTexts();
        int[] wrong = {31, 127, -1, LEAST, MOST, 10};
        for (int character : wrong) {
            Due.is("19 type " + character, x.type(character), INVALID);
        }
        Due.is("19 the lowest", x.type(32), 1);
        Due.is("19 the highest", x.type(126), 2);
        for (int i = 2; i < 60; i++) {
            Due.is("19 type", x.type('a'), i + 1);
        }
        Due.is("19 full", x.type('a'), LIMIT);
        Due.is("19 a wrong character comes first", x.type(127), INVALID);
        Due.is("19 length", x.count(8), 60);
        Due.is("19 it is no change", x.count(7), 0);
    }

    // 20
    private static void clearText() {
        DiagonalTexts x = new DiagonalTexts();
        Due.is("20 empty", x.clearText(), 0);
        Due.type(x, "+a;");
        Due.is("20 clear", x.clearText(), 3);
        Due.is("20 length", x.count(8), 0);
        Due.is("20 again", x.clearText(), 0);
        Due.is("20 it is no change", x.count(7), 0);
        Due.is("20 type behind it", x.type('+'), 1);
        Due.is("20 nothing of before", x.fault(2), 1);
    }

    private static void faulty(String first, String text, int position, int reason, int cause) {
        DiagonalTexts x = Due.rows(first, "");
        Due.type(x, text);
        String of = "21 " + first + " " + text;
        Due.is(of + " position", x.fault(0), position);
        Due.is(of + " reason", x.fault(1), reason);
        Due.is(of + " cause", x.fault(2), cause);
        Due.is(of + " apply", x.apply(), IMPOSSIBLE);
        Due.row(of, x, 0, first);
        Due.row(of, x, 1, "");
    }

    private static void faultless(String first, String text, String second) {
        DiagonalTexts x = Due.rows(first, "");
        Due.type(x, text);
        for (int what = 0; what < 3; what++) {
            Due.is("21 " + first + " " + text, x.fault(what), MISSING);
        }
        Due.is("22 " + first + " " + text, x.apply(), second.length());
        Due.row("22 " + first + " " + text, x, 1, second);
        Due.row("22 the first row stays", x, 0, first);
        Due.is("22 the text stays", x.count(8), text.length());
    }

    // 21, reason 1
    private static void faultForm() {
        DiagonalTexts x = new DiagonalTexts();
        int[] wrong = {-1, 3, LEAST, MOST};
        for (int what : wrong) {
            Due.is("21 fault " + what, x.fault(what), INVALID);
        }
        faulty("a", "x", 0, 1, 0);
        faulty("a", ";", 0, 1, 0);
        faulty("a", " =1;", 0, 1, 0);
        faulty("a", "=", 0, 1, 1);
        faulty("a", "=;", 0, 1, 1);
        faulty("a", "=0;", 0, 1, 1);
        faulty("a", "=01;", 0, 1, 1);
        faulty("a", "=a;", 0, 1, 1);
        faulty("a", "=1", 0, 1, 2);
        faulty("a", "=1x", 0, 1, 2);
        faulty("a", "-1-", 0, 1, 2);
        faulty("a", "-12", 0, 1, 3);
        faulty("a", "-123;", 0, 1, 3);
        faulty("a", "=10x;", 0, 1, 3);
        faulty("a", "+", 0, 1, 1);
        faulty("a", "+;", 0, 1, 1);
        faulty("a", "+i;", 0, 1, 1);
        faulty("a", "+A;", 0, 1, 1);
        faulty("a", "+a", 0, 1, 2);
        faulty("a", "+abi;", 0, 1, 3);
        faulty("a", "+ab1;", 0, 1, 3);
        faulty("a", "=1;;", 3, 1, 0);
        faulty("a", "=1;+b;-", 6, 1, 1);
        faulty("a", "=1; ", 3, 1, 0);
        faulty("a", "+" + Due.many("h", 59), 0, 1, 60);
        faulty("a", "=9x", 0, 1, 2);
        faulty("", "+" + Due.many("a", 29) + "x", 0, 1, 30);
    }

    // 21, reasons 2 to 4
    private static void faultLetters() {
        faulty("", "=1;", 0, 2, MISSING);
        faulty("abc", "=4;", 0, 2, MISSING);
        faulty("abc", "-4;", 0, 2, MISSING);
        faulty("abc", "=2;-1;=1;", 6, 2, MISSING);
        faulty("abc", "=2;-2;", 3, 2, MISSING);
        faulty("abc", "=99;x", 0, 2, MISSING);
        faulty("", "+" + Due.many("a", 29) + ";", 0, 3, MISSING);
        faulty("a", "+" + Due.many("a", 28) + ";=1;", 30, 3, MISSING);
        faulty("ab", "+" + Due.many("a", 28) + ";=3;", 30, 2, MISSING);
        faulty(Due.many("a", 28), "=28;+b;", 4, 3, MISSING);
        faulty("abc", "", 0, 4, 3);
        faulty("abc", "=1;", 3, 4, 2);
        faulty("abc", "+abc;", 5, 4, 3);
        faulty("abc", "=1;+a;-1;", 9, 4, 1);
        faultless("", "", "");
        faultless("a", "=1;", "a");
        faultless("a", "-1;", "");
        faultless("", "+hgfedcba;", "hgfedcba");
        faultless(Due.many("ab", 14), "=28;", Due.many("ab", 14));
        faultless(Due.many("ab", 14), "-27;=1;", "b");
        faultless(Due.many("a", 28), "+" + Due.many("b", 28) + ";-28;", Due.many("b", 28));
        faultless("ab", "=1;=1;+c;+d;", "abcd");
        faultless("abcdefghab", "=10;", "abcdefghab");
        faultless("abc", "-1;+a;-1;+b;-1;+h;", "abh");
    }

    // 22
    private static void apply() {
        DiagonalTexts x = Due.rows("abcde", "gggggggg");
        Due.type(x, "=2;-1;+fg;=2;");
        Due.is("22 apply", x.apply(), 6);
        Due.row("22", x, 1, "abfgde");
        Due.row("22", x, 0, "abcde");
        Due.is("22 undo", x.undo(), 3);
        Due.row("22 undo", x, 1, "gggggggg");
        x.apply();
        x.exchange();
        Due.is("22 another first row", x.fault(1), 4);
        Due.is("22 another first row", x.apply(), IMPOSSIBLE);
        DiagonalTexts empty = Due.rows("", "abc");
        Due.is("22 the empty script", empty.apply(), 0);
        Due.row("22", empty, 1, "");
        DiagonalTexts same = Due.rows(FIRST, SECOND);
        Due.type(same, "-2;=1;+b;=2;-1;=1;+c;");
        Due.is("22 the least script", same.apply(), 6);
        Due.row("22", same, 1, SECOND);
    }
}
