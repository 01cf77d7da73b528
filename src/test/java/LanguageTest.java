import java.io.IOException;
import java.lang.reflect.Field;
import java.lang.reflect.Method;
import java.lang.reflect.Modifier;
import java.nio.file.Files;
import java.nio.file.Path;
import java.util.ArrayList;
import java.util.List;
import java.util.Set;
import java.util.TreeSet;
import java.util.regex.Matcher;
import java.util.regex.Pattern;

/** What can be seen of LANGUAGE.md's rules in the program's text and in its classes. */
public final class LanguageTest {
    private static final Check CHECK = new Check("Language");
    private static final Path PROGRAM = Path.of("src", "main", "java", "OctagonDesk.java");
    private static final Pattern METHOD = Pattern.compile(
        "\\n {4,8}((?:(?:public|private|static|final) )*)([\\w\\[\\]<>]+ )?(\\w+)\\(([^()]*)\\)\\s*(?:throws [\\w, ]+)?\\{\\n");
    // "Some twenty", "some sixty" and "some twelve" leave a little more.
    private static final int FIELD_LIMIT = 24;
    private static final int LINE_LIMIT = 70;
    private static final int CLASS_LIMIT = 14;

    public static void main(String[] args) throws IOException {
        String text = withoutCommentsAndTexts(Files.readString(PROGRAM));
        rule1(text);
        rule4(text);
        rule5(text);
        rule6(text);
        rule11(text);
        words(text);
        CHECK.finish();
    }

    private static String withoutCommentsAndTexts(String text) {
        return text.replaceAll("(?s)/\\*.*?\\*/", "").replaceAll("//.*", "").replaceAll("\"[^\"\\n]*\"", "TEXT");
    }

    private static void noneOf(String what, String pattern, String text) {
        Set<String> found = new TreeSet<>();
        Matcher matcher = Pattern.compile(pattern).matcher(text);
        while (matcher.find()) {
            found.add(matcher.group());
        }
        CHECK.due(what, found.toString(), "[]");
    }

    private static List<Class<?>> allClasses() {
        List<Class<?>> all = new ArrayList<>(List.of(OctagonDesk.class.getDeclaredClasses()));
        all.add(OctagonDesk.class);
        return all;
    }

    private static void rule1(String text) {
        noneOf("rule 1: a package", "(?m)^package .*", text);
        Set<String> names = new TreeSet<>();
        for (Method method : OctagonDesk.class.getDeclaredMethods()) {
            if (Modifier.isPublic(method.getModifiers())) {
                names.add(method.getName());
            }
        }
        CHECK.due("rule 1: public methods", names.size(), 17);
        for (Class<?> each : allClasses()) {
            for (Method method : each.getDeclaredMethods()) {
                boolean clashes = Modifier.isPrivate(method.getModifiers()) && names.contains(method.getName());
                CHECK.due("rule 1: private " + method.getName() + " bears a public name", clashes, false);
            }
        }
    }

    private static void rule4(String text) {
        noneOf("rule 4: imports", "(?m)^import (?!java\\.util\\.(Arrays|ArrayList|List|Iterator|NoSuchElementException);).*", text);
        noneOf("rule 4: System", "\\bSystem\\.(?!arraycopy\\b)\\w+", text);
        noneOf("rule 4: Arrays", "\\bArrays\\.(?!(copyOf|copyOfRange|fill)\\b)\\w+", text);
        noneOf("rule 4: functions that throw", "\\b\\w+Exact\\b", text);
    }

    private static void rule5(String text) {
        noneOf("rule 5: a static block", "\\bstatic \\{", text);
        for (Class<?> each : allClasses()) {
            for (Field field : each.getDeclaredFields()) {
                if (Modifier.isStatic(field.getModifiers())) {
                    String name = each.getName() + "." + field.getName();
                    CHECK.due("rule 5: " + name + " is final", Modifier.isFinal(field.getModifiers()), true);
                }
            }
        }
    }

    private static void rule6(String text) {
        noneOf("rule 6: throws of another form", "\\bthrow (?!new (IllegalState|IllegalArgument|IndexOutOfBounds|Arithmetic"
            + "|UnsupportedOperation|NoSuchElement|Runtime)Exception\\((TEXT)?\\);).*", text);
    }

    private static void words(String text) {
        noneOf("rule 2: references to methods", "::", text);
        noneOf("rule 2: lambdas", "(?m)^(?!\\s*(case|default)\\b).*->.*", text);
        noneOf("rules 6 and 13: words", "\\b(finally|synchronized|assert|volatile|native|getMessage|getClass|Thread|Random"
            + "|nanoTime|currentTimeMillis)\\b", text);
    }

    private static void rule11(String text) {
        CHECK.due("rule 11: classes", allClasses().size() <= CLASS_LIMIT, true);
        for (Class<?> each : allClasses()) {
            int fields = 0;
            for (Field field : each.getDeclaredFields()) {
                fields += Modifier.isStatic(field.getModifiers()) ? 0 : 1;
            }
            CHECK.due("rule 11: fields of " + each.getName(), fields <= FIELD_LIMIT, true);
        }
        Matcher matcher = METHOD.matcher(text);
        while (matcher.find()) {
            String name = matcher.group(3);
            String body = body(text, matcher.end());
            CHECK.due("rule 11: parameters of " + name, matcher.group(4).split(",").length <= 7, true);
            CHECK.due("rule 11: lines of " + name, body.split("\n").length <= LINE_LIMIT, true);
            if (matcher.group(2) == null) {
                CHECK.due("rule 6: a throw in the constructor " + name, body.contains("throw "), false);
            }
        }
    }

    private static String body(String text, int start) {
        int open = 1;
        int at = start;
        while (open > 0 && at < text.length()) {
            char c = text.charAt(at);
            open += c == '{' ? 1 : c == '}' ? -1 : 0;
            at++;
        }
        return text.substring(start, at);
    }
}
