import java.util.ArrayDeque;
import java.util.ArrayList;
import java.util.Deque;
import java.util.HashMap;
import java.util.List;
import java.util.Map;
import java.util.regex.Matcher;
import java.util.regex.Pattern;

/**
 * The document told once more in its own words, slow and plain, to compare long
 * runs with: rows are texts of a to h, a script is a text of = - +. It shares
 * nothing with the program.
 */
final class Model {
    private static final int[] LEAST = {0, 0, 1};
    private static final int[] MOST = {56, 5, 9};
    private static final Pattern PART = Pattern.compile("[=-][1-9][0-9]?;|\\+[a-h]+;");

    private String[] rows = {"", ""};
    private int[] settings = {56, 1, 2};
    private String typed = "";
    private final Deque<Object[]> history = new ArrayDeque<>();

    // found anew for each pair of rows
    private String foundFor = null;
    private final Map<Integer, Integer> reached = new HashMap<>();
    private final Map<Integer, Long> ways = new HashMap<>();
    private int fewest;
    private String script;
    private int[] best;

    private void record() {
        history.addLast(new Object[] {rows.clone(), settings.clone()});
        if (history.size() > 4) {
            history.removeFirst();
        }
    }

    private static boolean in(int value, int least, int most) {
        return least <= value && value <= most;
    }

    // ---- rows

    int append(int row, int letter) {
        if (!in(row, 0, 1) || !in(letter, 0, 7)) {
            return Due.INVALID_ARGUMENT;
        }
        if (rows[row].length() == 28) {
            return Due.LIMIT_REACHED;
        }
        record();
        rows[row] += (char) ('a' + letter);
        return rows[row].length();
    }

    int cut(int row, int from, int many) {
        if (!in(row, 0, 1) || from < 0 || !in(many, 1, 28)) {
            return Due.INVALID_ARGUMENT;
        }
        if ((long) from + many > rows[row].length()) {
            return Due.NOT_POSSIBLE;
        }
        record();
        rows[row] = rows[row].substring(0, from) + rows[row].substring(from + many);
        return rows[row].length();
    }

    int change(int row, int place, int letter) {
        if (!in(row, 0, 1) || !in(place, 0, rows[row].length() - 1) || !in(letter, 0, 7)) {
            return Due.INVALID_ARGUMENT;
        }
        record();
        int before = rows[row].charAt(place) - 'a';
        rows[row] = changed(rows[row], place, letter);
        return before;
    }

    private static String changed(String row, int place, int letter) {
        return row.substring(0, place) + (char) ('a' + letter) + row.substring(place + 1);
    }

    int exchange() {
        record();
        rows = new String[] {rows[1], rows[0]};
        return rows[0].length();
    }

    int set(int what, int value) {
        if (!in(what, 0, 2) || !in(value, LEAST[what], MOST[what])) {
            return Due.INVALID_ARGUMENT;
        }
        record();
        int before = settings[what];
        settings[what] = value;
        return before;
    }

    int letterAt(int row, int place) {
        if (!in(row, 0, 1) || place < 0) {
            return Due.INVALID_ARGUMENT;
        }
        return place < rows[row].length() ? rows[row].charAt(place) - 'a' : Due.NOT_FOUND;
    }

    int same(int first, int second) {
        if (!in(first, 0, rows[0].length()) || !in(second, 0, rows[1].length())) {
            return Due.INVALID_ARGUMENT;
        }
        String one = rows[0].substring(first);
        String other = rows[1].substring(second);
        int many = Math.min(one.length(), other.length());
        while (!one.substring(0, many).equals(other.substring(0, many))) {
            many--;
        }
        return many;
    }

    // ---- reaches

    private void find() {
        String both = rows[0] + "|" + rows[1];
        if (both.equals(foundFor)) {
            return;
        }
        foundFor = both;
        reached.clear();
        ways.clear();
        best = null;
        int end = rows[0].length() - rows[1].length();
        fewest = 0;
        while ((fewest + end) % 2 != 0 || Math.abs(end) > fewest || reachOf(fewest, end) < rows[0].length()) {
            fewest++;
        }
        Due.is("model: the least d is the fewest edits of a script", fewest, editsBetween(rows[0], rows[1]));
        script = scriptTo(fewest, end);
    }

    /** From which diagonal one comes, by the document's words. */
    private int from(int edits, int diagonal) {
        if (diagonal == -edits) {
            return diagonal + 1;
        }
        if (diagonal != edits && reachOf(edits - 1, diagonal - 1) < reachOf(edits - 1, diagonal + 1)) {
            return diagonal + 1;
        }
        return diagonal - 1;
    }

    private int ahead(int edits, int diagonal) {
        if (edits == 0) {
            return 0;
        }
        int from = from(edits, diagonal);
        return reachOf(edits - 1, from) + (from < diagonal ? 1 : 0);
    }

    private int reachOf(int edits, int diagonal) {
        int key = edits * 1000 + diagonal;
        Integer known = reached.get(key);
        if (known != null) {
            return known;
        }
        int x = ahead(edits, diagonal);
        while (x < rows[0].length() && x - diagonal >= 0 && x - diagonal < rows[1].length()
                && rows[0].charAt(x) == rows[1].charAt(x - diagonal)) {
            x++;
        }
        reached.put(key, x);
        return x;
    }

    private String scriptTo(int edits, int diagonal) {
        String kept = "=".repeat(reachOf(edits, diagonal) - ahead(edits, diagonal));
        if (edits == 0) {
            return kept;
        }
        int from = from(edits, diagonal);
        return scriptTo(edits - 1, from) + (from < diagonal ? "-" : "+") + kept;
    }

    private static int editsBetween(String first, String second) {
        int[][] edits = new int[first.length() + 1][second.length() + 1];
        for (int x = 0; x <= first.length(); x++) {
            for (int y = 0; y <= second.length(); y++) {
                if (x == 0 || y == 0) {
                    edits[x][y] = x + y;
                } else {
                    edits[x][y] = Math.min(edits[x - 1][y], edits[x][y - 1]) + 1;
                    if (first.charAt(x - 1) == second.charAt(y - 1)) {
                        edits[x][y] = Math.min(edits[x][y], edits[x - 1][y - 1]);
                    }
                }
            }
        }
        return edits[first.length()][second.length()];
    }

    int reach(int edits, int diagonal) {
        if (!in(edits, 0, 56) || !in(diagonal, -56, 56)) {
            return Due.INVALID_ARGUMENT;
        }
        find();
        if (diagonal < -edits || diagonal > edits || Math.floorMod(edits - diagonal, 2) == 1 || edits > fewest) {
            return Due.NOT_FOUND;
        }
        return reachOf(edits, diagonal);
    }

    private boolean isAbove() {
        find();
        return fewest > settings[0];
    }

    int distance() {
        return isAbove() ? Due.LIMIT_REACHED : fewest;
    }

    private static int firstIn(String steps) {
        return steps.replace("+", "").length();
    }

    private static int secondIn(String steps) {
        return steps.replace("-", "").length();
    }

    int stepOf(int step, int what) {
        if (step < 0 || !in(what, 0, 3)) {
            return Due.INVALID_ARGUMENT;
        }
        if (isAbove()) {
            return Due.LIMIT_REACHED;
        }
        if (step >= script.length()) {
            return Due.NOT_FOUND;
        }
        String done = script.substring(0, step);
        char kind = script.charAt(step);
        switch (what) {
            case 0:
                return "=-+".indexOf(kind);
            case 1:
                return (kind == '+' ? rows[1].charAt(secondIn(done)) : rows[0].charAt(firstIn(done))) - 'a';
            case 2:
                return firstIn(done);
            default:
                return secondIn(done);
        }
    }

    private String scriptText() {
        StringBuilder text = new StringBuilder();
        Matcher parts = Pattern.compile("=+|-+|\\++").matcher(script);
        while (parts.find()) {
            String part = parts.group();
            int y = secondIn(script.substring(0, parts.start()));
            text.append(part.charAt(0));
            text.append(part.charAt(0) == '+' ? rows[1].substring(y, y + part.length()) : "" + part.length());
            text.append(';');
        }
        return text.toString();
    }

    int textAt(int index) {
        if (index < 0) {
            return Due.INVALID_ARGUMENT;
        }
        if (isAbove()) {
            return Due.LIMIT_REACHED;
        }
        String text = scriptText();
        return index < text.length() ? text.charAt(index) : Due.NOT_FOUND;
    }

    /** How many ways lead on from x and y with just so many edits. */
    private long waysOn(int x, int y, int edits) {
        int restOfFirst = rows[0].length() - x;
        int restOfSecond = rows[1].length() - y;
        if (edits < 0 || restOfFirst < 0 || restOfSecond < 0) {
            return 0;
        }
        if (restOfFirst == 0 && restOfSecond == 0) {
            return edits == 0 ? 1 : 0;
        }
        int key = (x * 100 + y) * 100 + edits;
        Long known = ways.get(key);
        if (known != null) {
            return known;
        }
        long sum = waysOn(x + 1, y, edits - 1) + waysOn(x, y + 1, edits - 1);
        if (restOfFirst > 0 && restOfSecond > 0 && rows[0].charAt(x) == rows[1].charAt(y)) {
            sum += waysOn(x + 1, y + 1, edits);
        }
        ways.put(key, sum);
        return sum;
    }

    long scripts() {
        find();
        return waysOn(0, 0, fewest);
    }

    // ---- hunks and blocks

    private List<int[]> hunks() {
        List<int[]> hunks = new ArrayList<>();
        int around = settings[1];
        Matcher parts = Pattern.compile("[-+](?:={0," + 2 * around + "}[-+])*").matcher(script);
        while (parts.find()) {
            int from = Math.max(parts.start() - around, 0);
            int end = Math.min(parts.end() + around, script.length());
            String ahead = script.substring(0, from);
            String of = script.substring(from, end);
            hunks.add(new int[] {firstIn(ahead), firstIn(of), secondIn(ahead), secondIn(of),
                of.replace("=", "").length()});
        }
        return hunks;
    }

    int hunkOf(int hunk, int what) {
        if (hunk < 0 || !in(what, 0, 4)) {
            return Due.INVALID_ARGUMENT;
        }
        if (isAbove()) {
            return Due.LIMIT_REACHED;
        }
        List<int[]> hunks = hunks();
        return hunk < hunks.size() ? hunks.get(hunk)[what] : Due.NOT_FOUND;
    }

    /** The rows of letters taken out (-) or put in (+) one right behind another: place and end. */
    private List<int[]> edited(char kind) {
        List<int[]> edited = new ArrayList<>();
        Matcher parts = Pattern.compile("\\" + kind + "+").matcher(script);
        while (parts.find()) {
            String ahead = script.substring(0, parts.start());
            int place = kind == '-' ? firstIn(ahead) : secondIn(ahead);
            edited.add(new int[] {place, place + parts.group().length()});
        }
        return edited;
    }

    private List<int[]> blocks() {
        List<int[]> blocks = new ArrayList<>();
        for (int[] out : edited('-')) {
            for (int[] in : edited('+')) {
                for (int x = out[0]; x < out[1]; x++) {
                    for (int y = in[0]; y < in[1]; y++) {
                        for (int size = 1; x + size <= out[1] && y + size <= in[1]; size++) {
                            boolean grows = x > out[0] && y > in[0] && areAlike(x - 1, y - 1, size + 1)
                                    || x + size < out[1] && y + size < in[1] && areAlike(x, y, size + 1);
                            if (areAlike(x, y, size) && !grows && size >= settings[2]) {
                                blocks.add(new int[] {size, x, y});
                            }
                        }
                    }
                }
            }
        }
        blocks.sort((a, b) -> a[0] != b[0] ? b[0] - a[0] : a[1] != b[1] ? a[1] - b[1] : a[2] - b[2]);
        return blocks;
    }

    private boolean areAlike(int x, int y, int size) {
        return rows[0].substring(x, x + size).equals(rows[1].substring(y, y + size));
    }

    int movedOf(int block, int what) {
        if (block < 0 || !in(what, 0, 2)) {
            return Due.INVALID_ARGUMENT;
        }
        if (isAbove()) {
            return Due.LIMIT_REACHED;
        }
        List<int[]> blocks = blocks();
        return block < blocks.size() ? blocks.get(block)[what] : Due.NOT_FOUND;
    }

    // ---- what would be

    int bestChange(int what) {
        if (!in(what, 0, 2)) {
            return Due.INVALID_ARGUMENT;
        }
        find();
        if (best == null) {
            best = new int[] {-1, -1, fewest};
            for (int place = 0; place < rows[0].length(); place++) {
                for (int letter = 0; letter < 8; letter++) {
                    int then = editsBetween(changed(rows[0], place, letter), rows[1]);
                    if (then < best[2]) {
                        best = new int[] {place, letter, then};
                    }
                }
            }
        }
        return best[0] < 0 ? Due.NOT_FOUND : best[what];
    }

    int count(int what) {
        switch (what) {
            case 0:
            case 1:
                return rows[what].length();
            case 2:
                return isAbove() ? Due.LIMIT_REACHED : script.length();
            case 3:
                return isAbove() ? Due.LIMIT_REACHED : script.replace("-", "").replace("+", "").length();
            case 4:
                return isAbove() ? Due.LIMIT_REACHED : hunks().size();
            case 5:
                return isAbove() ? Due.LIMIT_REACHED : blocks().size();
            case 6:
                return longest();
            case 7:
                return history.size();
            case 8:
                return typed.length();
            case 20:
            case 21:
            case 22:
                return settings[what - 20];
            default:
                return Due.INVALID_ARGUMENT;
        }
    }

    private int longest() {
        int longest = 0;
        for (int from = 0; from < rows[0].length(); from++) {
            while (from + longest < rows[0].length()
                    && rows[1].contains(rows[0].substring(from, from + longest + 1))) {
                longest++;
            }
        }
        return longest;
    }

    int undo() {
        if (history.isEmpty()) {
            return Due.NOT_POSSIBLE;
        }
        Object[] latest = history.removeLast();
        rows = (String[]) latest[0];
        settings = (int[]) latest[1];
        return history.size();
    }

    // ---- texts

    int type(int character) {
        if (!in(character, 32, 126)) {
            return Due.INVALID_ARGUMENT;
        }
        if (typed.length() == 60) {
            return Due.LIMIT_REACHED;
        }
        typed += (char) character;
        return typed.length();
    }

    int clearText() {
        int before = typed.length();
        typed = "";
        return before;
    }

    /** The fault's position, reason and cause, or null; what is built goes to the builder. */
    private int[] faultOf(StringBuilder built) {
        String left = rows[0];
        int position = 0;
        while (position < typed.length()) {
            String rest = typed.substring(position);
            Matcher part = PART.matcher(rest);
            if (!part.lookingAt()) {
                return new int[] {position, 1, breakOf(rest)};
            }
            String told = part.group();
            String value = told.substring(1, told.length() - 1);
            boolean isPutIn = told.charAt(0) == '+';
            int many = isPutIn ? value.length() : Integer.parseInt(value);
            if (!isPutIn && many > left.length()) {
                return new int[] {position, 2, Due.NOT_FOUND};
            }
            if (told.charAt(0) != '-' && built.length() + many > 28) {
                return new int[] {position, 3, Due.NOT_FOUND};
            }
            built.append(isPutIn ? value : told.charAt(0) == '=' ? left.substring(0, many) : "");
            left = isPutIn ? left : left.substring(many);
            position += told.length();
        }
        return left.isEmpty() ? null : new int[] {typed.length(), 4, left.length()};
    }

    /** The longest beginning that could still become a part. */
    private static int breakOf(String rest) {
        int length = 0;
        while (length < rest.length()) {
            Matcher beginning = PART.matcher(rest.substring(0, length + 1));
            if (!beginning.matches() && !beginning.hitEnd()) {
                return length;
            }
            length++;
        }
        return length;
    }

    int fault(int what) {
        if (!in(what, 0, 2)) {
            return Due.INVALID_ARGUMENT;
        }
        int[] fault = faultOf(new StringBuilder());
        return fault == null ? Due.NOT_FOUND : fault[what];
    }

    int apply() {
        StringBuilder built = new StringBuilder();
        if (faultOf(built) != null) {
            return Due.NOT_POSSIBLE;
        }
        record();
        rows[1] = built.toString();
        return rows[1].length();
    }
}
