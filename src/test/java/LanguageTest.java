import java.lang.reflect.Constructor;
import java.lang.reflect.Field;
import java.lang.reflect.Method;
import java.lang.reflect.Modifier;
import java.nio.file.Files;
import java.nio.file.Path;
import java.util.Arrays;
import java.util.Set;
import java.util.TreeSet;
import java.util.regex.Matcher;
import java.util.regex.Pattern;

/** The rules of LANGUAGE.md that can be seen from the program's text and its class. */
public final class LanguageTest {
    private static final String[] FACE = {
        "DiagonalTexts()", "int append(int,int)", "int cut(int,int,int)", "int change(int,int,int)",
        "int exchange()", "int set(int,int)", "int letterAt(int,int)", "int same(int,int)",
        "int reach(int,int)", "int distance()", "int stepOf(int,int)", "int textAt(int)", "long scripts()",
        "int hunkOf(int,int)", "int movedOf(int,int)", "int bestChange(int)", "int count(int)", "int undo()",
        "int type(int)", "int clearText()", "int fault(int)", "int apply()",
        "int INVALID_ARGUMENT", "int NOT_POSSIBLE", "int LIMIT_REACHED", "int NOT_FOUND"};
    private static final String[] FORBIDDEN = {"\\bthrow\\b", "\\btry\\b", "\\bcatch\\b", "\\bsynchronized\\b",
        "\\bassert\\b", "->", "::", "\\bimport\\b", "\\bpackage\\b", "\\brecord\\s+\\w+\\s*\\(", "\\bhashCode\\b",
        "\\btoString\\b", "\\bequals\\b", "\\bSystem\\b", "\\bThread\\b", "\\bvar\\b", "Exact\\b", "[^\\x00-\\x7f]",
        "\\bdouble\\b", "\\bfloat\\b", "\\bwhile \\(true\\)", "\\bfor \\(;;\\)", "\\bprotected\\b"};

    private static int wrong = 0;

    public static void main(String[] args) throws Exception {
        String code = Files.readString(Path.of("src/main/java/DiagonalTexts.java"));
        for (String forbidden : FORBIDDEN) {
            Matcher found = Pattern.compile(forbidden).matcher(withoutComments(code));
            must(!found.find(), "the program has " + forbidden);
        }
        face();
        Class<?>[] inside = DiagonalTexts.class.getDeclaredClasses();
        must(inside.length + 1 <= 12, "there are more than twelve classes");
        fields(DiagonalTexts.class);
        for (Class<?> each : inside) {
            must(Modifier.isStatic(each.getModifiers()), each + " is not static");
            must(!Modifier.isPublic(each.getModifiers()) && !Modifier.isProtected(each.getModifiers()),
                    each + " is seen from outside");
            fields(each);
        }
        lengths(code);
        System.out.println(wrong == 0 ? "the rules are kept" : wrong + " rules are broken");
        if (wrong != 0) {
            System.exit(1);
        }
    }

    private static void must(boolean holds, String what) {
        if (!holds) {
            wrong++;
            System.out.println(what);
        }
    }

    private static String withoutComments(String code) {
        return code.replaceAll("(?s)/\\*.*?\\*/", "").replaceAll("//[^\n]*", "");
    }

    /** Rule 1: the document's face, and nothing else that is seen from outside. */
    private static void face() {
        Set<String> seen = new TreeSet<>();
        Set<String> hidden = new TreeSet<>();
        for (Constructor<?> each : DiagonalTexts.class.getDeclaredConstructors()) {
            seen.add("DiagonalTexts(" + types(each.getParameterTypes()) + ")");
        }
        for (Field each : DiagonalTexts.class.getDeclaredFields()) {
            if (!Modifier.isPrivate(each.getModifiers())) {
                seen.add(each.getType() + " " + each.getName());
            }
        }
        for (Method each : DiagonalTexts.class.getDeclaredMethods()) {
            if (Modifier.isPrivate(each.getModifiers())) {
                hidden.add(each.getName());
            } else if (!each.isSynthetic()) {
                seen.add(each.getReturnType() + " " + each.getName() + "(" + types(each.getParameterTypes()) + ")");
            }
        }
        must(seen.equals(new TreeSet<>(Arrays.asList(FACE))), "the face is " + seen);
        int modifiers = DiagonalTexts.class.getModifiers();
        must(Modifier.isPublic(modifiers) && Modifier.isFinal(modifiers), "the class is not public and final");
        for (String each : FACE) {
            String name = each.replaceAll("\\(.*", "").replaceAll(".* ", "");
            must(!hidden.contains(name), "a private method is called " + name);
        }
    }

    private static String types(Class<?>[] types) {
        StringBuilder names = new StringBuilder();
        for (Class<?> each : types) {
            names.append(names.length() == 0 ? "" : ",").append(each.getName());
        }
        return names.toString();
    }

    /** Rules 5 and 11: static fields are final, and a class has some twenty fields at most. */
    private static void fields(Class<?> of) {
        int many = 0;
        for (Field each : of.getDeclaredFields()) {
            if (Modifier.isStatic(each.getModifiers())) {
                must(Modifier.isFinal(each.getModifiers()), each + " is not final");
            } else {
                many++;
            }
        }
        must(many <= 20, of + " has " + many + " fields");
    }

    /** Rule 11: a method has some sixty lines at most; it begins and ends at its own indentation. */
    private static void lengths(String code) {
        String[] lines = code.split("\n");
        Pattern head = Pattern.compile("^( {4}| {8})(?! |.*\\bclass\\b)[\\w\\[\\] ]+\\(.*\\{$");
        for (int from = 0; from < lines.length; from++) {
            Matcher found = head.matcher(lines[from]);
            if (found.find()) {
                int end = from;
                while (end < lines.length && !lines[end].equals(found.group(1) + "}")) {
                    end++;
                }
                must(end - from < 60, "a long method begins at line " + (from + 1));
            }
        }
    }
}
