import java.lang.reflect.Constructor;
import java.lang.reflect.Field;
import java.lang.reflect.Method;
import java.lang.reflect.Modifier;
import java.nio.file.Files;
import java.nio.file.Path;
import java.util.Arrays;
import java.util.Set;
import java.util.TreeSet;
import java.util.regex.Matcher;
import java.util.regex.Pattern;

/** The rules of LANGUAGE.md that can be seen from the program's text and its class. */
public final class LanguageTest {
    private static final String[] FACE = {
        "DiagonalTexts()", "int append(int,int)", "int cut(int,int,int)", "int change(int,int,int)",
        "int exchange()", "int set(int,int)", "int letterAt(int,int)", "int same(int,int)",
        "int reach(int,int)", "int distance()", "int stepOf(int,int)", "int textAt(int)", "long scripts()",
        "int hunkOf(int,int)", "int movedOf(int,int)", "int bestChange(int)", "int count(int)", "int undo()",
        "int type(int)", "int clearText()", "int fault(int)", "int apply()",
        "int INVALID_ARGUMENT", "int NOT_POSSIBLE", "int LIMIT_REACHED", "int NOT_FOUND"};
    private static final String[] FORBIDDEN = {"\\bthrow\\b", "\\btry\\b", "\\bcatch\\b", "\\bsynchronized\\b",
        "\\bassert\\b", "->", "::", "\\bimport\\b", "\\bpackage\\b", "\\brecord\\s+\\w+\\s*\\(", "\\bhashCode\\b",
        "\\btoString\\b", "\\bequals\\b", "\\bSystem\\b", "\\bThread\\b", "\\bvar\\b", "Exact\\b", "[^\\x00-\\x7f]",
        "\\bdouble\\b", "\\bfloat\\b", "\\bwhile \\(true\\)", "\\bfor \\(;;\\)", "\\bprotected\\b"};

    /** Rule 4: of the library the program uses this alone; the own classes are told by the class itself. */
    private static final Set<String> LIBRARY = Set.of("Math.max", "Math.min");
    private static final int MOST_PARAMETERS = 7;

    private static int wrong = 0;

    public static void main(String[] args) throws Exception {
        String code = Files.readString(Path.of("src/main/java/DiagonalTexts.java"));
        for (String forbidden : FORBIDDEN) {
            Matcher found = Pattern.compile(forbidden).matcher(withoutComments(code));
            must(!found.find(), "the program has " + forbidden);
        }
        library(withoutComments(code));
        face();
        methods(DiagonalTexts.class);
        Class<?>[] inside = DiagonalTexts.class.getDeclaredClasses();
        must(inside.length + 1 <= 12, "there are more than twelve classes");
        fields(DiagonalTexts.class);
        for (Class<?> each : inside) {
            must(Modifier.isStatic(each.getModifiers()), each + " is not static");
            must(!Modifier.isPublic(each.getModifiers()) && !Modifier.isProtected(each.getModifiers()),
                    each + " is seen from outside");
            fields(each);
            methods(each);
        }
        lengths(code);
        System.out.println(wrong == 0 ? "the rules are kept" : wrong + " rules are broken");
        if (wrong != 0) {
            System.exit(1);
        }
    }

    private static void must(boolean holds, String what) {
        if (!holds) {
            wrong++;
            System.out.println(what);
        }
    }

    private static String withoutComments(String code) {
        return code.replaceAll("(?s)/\\*.*?\\*/", "").replaceAll("//[^\n]*", "");
    }

    /** Rules 3 and 4: each name that begins with a capital is a constant, an own class, or of the library. */
    private static void library(String code) {
        Set<String> own = new TreeSet<>(LIBRARY);
        own.add("DiagonalTexts");
        for (Class<?> each : DiagonalTexts.class.getDeclaredClasses()) {
            own.add(each.getSimpleName());
        }
        Matcher names = Pattern.compile("(?<![\\w.])[A-Z]\\w*[a-z]\\w*(?:\\.\\w+)?").matcher(code);
        while (names.find()) {
            must(own.contains(names.group()), "the program uses " + names.group());
        }
        must(!code.contains("\""), "the program has a text; rules 4 and 10 bind it then");
    }

    /** Rules 1 and 11: no private method has a public one's name, and none takes more than seven numbers. */
    private static void methods(Class<?> of) {
        Set<String> open = new TreeSet<>();
        for (String each : FACE) {
            open.add(each.replaceAll("\\(.*", "").replaceAll(".* ", ""));
        }
        for (Method each : of.getDeclaredMethods()) {
            must(each.getParameterCount() <= MOST_PARAMETERS, each + " takes too many");
            must(!Modifier.isPrivate(each.getModifiers()) || !open.contains(each.getName()),
                    each + " has the name of a public one");
            must(of == DiagonalTexts.class || !open.contains(each.getName()), each + " has the name of a public one");
        }
    }

    /** Rule 1: the document's face, and nothing else that is seen from outside. */
    private static void face() {
        Set<String> seen = new TreeSet<>();
        for (Constructor<?> each : DiagonalTexts.class.getDeclaredConstructors()) {
            seen.add("DiagonalTexts(" + types(each.getParameterTypes()) + ")");
        }
        for (Field each : DiagonalTexts.class.getDeclaredFields()) {
            if (!Modifier.isPrivate(each.getModifiers())) {
                seen.add(each.getType() + " " + each.getName());
            }
        }
        for (Method each : DiagonalTexts.class.getDeclaredMethods()) {
            if (!Modifier.isPrivate(each.getModifiers()) && !each.isSynthetic()) {
                seen.add(each.getReturnType() + " " + each.getName() + "(" + types(each.getParameterTypes()) + ")");
            }
        }
        must(seen.equals(new TreeSet<>(Arrays.asList(FACE))), "the face is " + seen);
        int modifiers = DiagonalTexts.class.getModifiers();
        must(Modifier.isPublic(modifiers) && Modifier.isFinal(modifiers), "the class is not public and final");
    }

    private static String types(Class<?>[] types) {
        StringBuilder names = new StringBuilder();
        for (Class<?> each : types) {
            names.append(names.length() == 0 ? "" : ",").append(each.getName());
        }
        return names.toString();
    }

    /** Rules 5 and 11: static fields are final, and a class has some twenty fields at most. */
    private static void fields(Class<?> of) {
        int many = 0;
        for (Field each : of.getDeclaredFields()) {
            if (Modifier.isStatic(each.getModifiers())) {
                must(Modifier.isFinal(each.getModifiers()), each + " is not final");
            } else {
                many++;
            }
        }
        must(many <= 20, of + " has " + many + " fields");
    }

    /** Rule 11: a method has some sixty lines at most; it begins and ends at its own indentation. */
    private static void lengths(String code) {
        String[] lines = code.split("\n");
        Pattern head = Pattern.compile("^( {4}| {8})(?! |.*\\bclass\\b)[\\w\\[\\] ]+\\(.*\\{$");
        for (int from = 0; from < lines.length; from++) {
            Matcher found = head.matcher(lines[from]);
            if (found.find()) {
                int end = from;
                while (end < lines.length && !lines[end].equals(found.group(1) + "}")) {
                    end++;
                }
                must(end - from < 60, "a long method begins at line " + (from + 1));
            }
        }
    }
}
