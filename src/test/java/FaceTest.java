import java.io.IOException;
import java.lang.reflect.Constructor;
import java.lang.reflect.Field;
import java.lang.reflect.Method;
import java.lang.reflect.Modifier;
import java.nio.file.Files;
import java.nio.file.Path;
import java.util.Set;
import java.util.TreeSet;

/** The class has the document's constants, constructor and methods, and nothing else to be seen. */
public final class FaceTest {
    private static final Path DOCUMENT = Path.of("..", "shared", "DOC.md");
    private static final String ARGUMENT = " throws IllegalArgumentException";
    private static final String BOTH = ARGUMENT + " IllegalStateException";

    public static void main(String[] args) throws IOException {
        Check check = new Check("Face");
        check.due("INFINITE", OctagonDesk.INFINITE, 9223372036854775807L);
        check.due("NONE", OctagonDesk.NONE, -1);
        check.due("modifiers", Modifier.toString(OctagonDesk.class.getModifiers()), "public final");
        check.due("methods", seenMethods().toString(), dueMethods().toString());
        check.due("fields", seenFields().toString(), "[INFINITE:long, NONE:int]");
        Constructor<?>[] constructors = OctagonDesk.class.getDeclaredConstructors();
        check.due("constructors", constructors.length, 1);
        check.due("constructor", Modifier.toString(constructors[0].getModifiers())
            + constructors[0].getParameterCount(), "public0");
        for (Class<?> inner : OctagonDesk.class.getDeclaredClasses()) {
            int modifiers = inner.getModifiers();
            check.due(inner.getName() + " is static", Modifier.isStatic(modifiers), true);
            check.due(inner.getName() + " is hidden", Modifier.isPublic(modifiers) || Modifier.isProtected(modifiers), false);
        }
        compareWithDocument(check);
        check.finish();
    }

    /** The document tells each method twice: in 'The public face' and at the head of its promise. */
    private static void compareWithDocument(Check check) throws IOException {
        if (!Files.isReadable(DOCUMENT)) {
            System.out.println("there is no " + DOCUMENT + " to compare the face with");
            return;
        }
        Set<String> face = new TreeSet<>();
        Set<String> promises = new TreeSet<>();
        for (String line : Files.readAllLines(DOCUMENT)) {
            if (line.matches(" +public \\w+ \\w+\\(.*")) {
                face.add(withoutNames(line.replaceFirst(" +public ", "").replace(";", "")));
            } else if (line.matches("`\\w+ \\w+\\(.*`: .*")) {
                promises.add(withoutNames(line.replaceAll("^`|`: .*", "")));
            }
        }
        check.due("the document's face", face.toString(), dueMethods().toString());
        check.due("the document's promises", promises.toString(), dueMethods().toString());
    }

    private static String withoutNames(String signature) {
        int end = signature.indexOf(')');
        String parameters = signature.substring(0, end).replaceAll("int \\w+(?=,|$)", "int");
        return parameters + signature.substring(end).replace("Exception, ", "Exception ");
    }

    private static Set<String> dueMethods() {
        Set<String> due = new TreeSet<>();
        due.add("boolean act(int, int, int, int, int)" + ARGUMENT);
        due.add("void clear(int)" + ARGUMENT);
        due.add("void copy(int, int)" + ARGUMENT);
        due.add("boolean meet(int, int, int)" + ARGUMENT);
        due.add("void join(int, int, int)" + ARGUMENT);
        due.add("void widen(int, int, int)" + ARGUMENT);
        due.add("void forget(int, int)" + ARGUMENT);
        due.add("boolean isEmpty(int)" + ARGUMENT);
        due.add("long most(int, int, int)" + BOTH);
        due.add("boolean inside(int, int)" + ARGUMENT);
        due.add("int bounds(int)" + ARGUMENT);
        due.add("long first(int, int)" + BOTH);
        due.add("int places(int)" + ARGUMENT);
        due.add("int step(int, int, int, int, int)" + BOTH);
        due.add("int erase()");
        due.add("int run(int)" + ARGUMENT);
        due.add("boolean take(int, int)" + ARGUMENT);
        return due;
    }

    private static Set<String> seenMethods() {
        Set<String> seen = new TreeSet<>();
        for (Method method : OctagonDesk.class.getDeclaredMethods()) {
            if (!Modifier.isPrivate(method.getModifiers()) && !method.isSynthetic()) {
                seen.add(describe(method));
            }
        }
        return seen;
    }

    private static String describe(Method method) {
        StringBuilder text = new StringBuilder();
        if (!Modifier.toString(method.getModifiers()).equals("public")) {
            text.append(Modifier.toString(method.getModifiers())).append(' ');
        }
        text.append(method.getReturnType().getSimpleName()).append(' ').append(method.getName()).append('(');
        String comma = "";
        for (Class<?> type : method.getParameterTypes()) {
            text.append(comma).append(type.getSimpleName());
            comma = ", ";
        }
        text.append(')');
        String before = " throws ";
        for (Class<?> type : method.getExceptionTypes()) {
            text.append(before).append(type.getSimpleName());
            before = " ";
        }
        return text.toString();
    }

    private static Set<String> seenFields() {
        Set<String> seen = new TreeSet<>();
        for (Field field : OctagonDesk.class.getDeclaredFields()) {
            if (!Modifier.isPrivate(field.getModifiers()) && !field.isSynthetic()) {
                seen.add(field.getName() + ":" + field.getType().getSimpleName());
            }
        }
        return seen;
    }
}
