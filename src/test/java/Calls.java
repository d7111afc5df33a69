import java.util.regex.Matcher;
import java.util.regex.Pattern;

/**
 * Makes the calls that a case of src/test/edges tells, a line each, on one
 * object after another, and compares each answer with the one that the line says
 * is due. README.md tells what the lines look like.
 */
final class Calls {
    private static final int MOST_CALLS = 512;
    private static final Caller PROGRAM = new Caller(DiagonalTexts.class);
    private static final Pattern TEXT = Pattern.compile("\\s*\"([^\"]*)\"(?:\\*(\\d+))?");

    private final String of;
    private DiagonalTexts x = new DiagonalTexts();
    private int made = 0;

    Calls(String of) {
        this.of = of;
    }

    void line(String line) {
        if (line.equals("new")) {
            x = new DiagonalTexts();
            made = 0;
        } else if (line.contains(" << ")) {
            String[] parts = line.split(" << ", 2);
            putIn(parts[0], textOf(parts[1]));
        } else if (line.matches("(first|second|script) = .*")) {
            String[] parts = line.split(" = ", 2);
            compare(parts[0], textOf(parts[1]));
        } else {
            call(line);
        }
    }

    /** What the line says in quotation marks, repeated as it says. */
    private static String textOf(String told) {
        StringBuilder text = new StringBuilder();
        Matcher parts = TEXT.matcher(told);
        int end = 0;
        while (parts.find() && parts.start() == end) {
            text.append(parts.group(1).repeat(parts.group(2) == null ? 1 : Integer.parseInt(parts.group(2))));
            end = parts.end();
        }
        if (end == 0 || !told.substring(end).isBlank()) {
            throw new IllegalArgumentException("no text: " + told);
        }
        return text.toString();
    }

    private void putIn(String where, String text) {
        for (int i = 0; i < text.length(); i++) {
            char sign = text.charAt(i);
            String call = where.equals("text") ? "type(" + (int) sign + ")"
                    : "append(" + rowOf(where) + ", " + (sign - 'a') + ")";
            if (answerOf(call) < 1) {
                Due.is(of + ": " + call + " was refused", 0, 1);
            }
        }
    }

    private static int rowOf(String name) {
        if (name.equals("first") || name.equals("second")) {
            return name.equals("first") ? 0 : 1;
        }
        throw new IllegalArgumentException("no row: " + name);
    }

    private void compare(String what, String text) {
        boolean isScript = what.equals("script");
        if (!isScript) {
            due("count(" + rowOf(what) + ")", text.length());
        }
        String call = isScript ? "textAt(" : "letterAt(" + rowOf(what) + ", ";
        for (int i = 0; i < text.length(); i++) {
            due(call + i + ")", isScript ? text.charAt(i) : text.charAt(i) - 'a');
        }
        due(call + text.length() + ")", Due.NOT_FOUND);
    }

    /** One call, or with a * one for each answer that is told: the * is 0, 1, 2, .. */
    private void call(String line) {
        String[] parts = line.split(" = ", 2);
        String[] wants = parts[1].trim().split(" +");
        String call = parts[0];
        int times = 1;
        if (call.contains(" times ")) {
            times = Integer.parseInt(call.split(" times ", 2)[0]);
            call = call.split(" times ", 2)[1];
        }
        if (wants.length != 1 && !call.contains("*")) {
            throw new IllegalArgumentException("more than one answer: " + line);
        }
        for (int time = 0; time < times; time++) {
            for (int i = 0; i < wants.length; i++) {
                due(call.replace("*", "" + i), numberOf(wants[i]));
            }
        }
    }

    private void due(String call, long want) {
        Due.is(of + ": " + call, answerOf(call), want);
    }

    private static long numberOf(String told) {
        switch (told) {
            case "INVALID_ARGUMENT":
                return Due.INVALID_ARGUMENT;
            case "NOT_POSSIBLE":
                return Due.NOT_POSSIBLE;
            case "LIMIT_REACHED":
                return Due.LIMIT_REACHED;
            case "NOT_FOUND":
                return Due.NOT_FOUND;
            case "MIN":
                return Integer.MIN_VALUE;
            case "MAX":
                return Integer.MAX_VALUE;
            default:
                return told.matches("'.'") ? told.charAt(1) : Long.parseLong(told);
        }
    }

    private long answerOf(String call) {
        made++;
        if (made > MOST_CALLS) {
            Due.is(of + ": the case makes calls that the document leaves free, call number", made, MOST_CALLS);
        }
        int open = call.indexOf('(');
        int close = call.lastIndexOf(')');
        String between = call.substring(open + 1, close).trim();
        String[] told = between.isEmpty() ? new String[0] : between.split(", *");
        int[] numbers = new int[told.length];
        for (int i = 0; i < told.length; i++) {
            numbers[i] = Math.toIntExact(numberOf(told[i]));
        }
        return PROGRAM.answer(x, call.substring(0, open), numbers);
    }
}
