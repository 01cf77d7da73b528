import java.io.IOException;
import java.lang.reflect.Method;
import java.lang.reflect.Modifier;
import java.nio.file.Files;
import java.nio.file.Path;

/** README.md names each call of the face and each test, and its example answers what it says. */
public final class ReadmeTest {
    private static final Check CHECK = new Check("Readme");

    public static void main(String[] args) throws IOException {
        String text = Files.readString(Path.of("README.md"));
        for (Method method : OctagonDesk.class.getDeclaredMethods()) {
            if (Modifier.isPublic(method.getModifiers())) {
                CHECK.due(method.getName() + " has a row", text.contains("| `" + method.getName() + "("), true);
            }
        }
        for (String test : Path.of("src", "test", "java").toFile().list()) {
            if (test.endsWith("Test.java") && !test.equals("ReadmeTest.java")) {
                CHECK.due(test + " has a row", text.contains("| `" + test.replace(".java", "") + "` |"), true);
            }
        }
        example();
        CHECK.finish();
    }

    private static void example() {
        OctagonDesk desk = new OctagonDesk();
        desk.act(0, 0, 0, 2, 7);
        desk.act(0, 0, 0, 3, 2);
        CHECK.due("most", desk.most(0, 0, 0), 4);
        desk.step(8 * 0 + 1, 2, 0, 0, 0);
        desk.step(8 * 1 + 1, 1, 0, 0, 1);
        CHECK.due("rounds", desk.run(1), 5);
        desk.take(2, 1);
        CHECK.due("slot 2", Desks.text(desk, 2), "-x0<=0");
    }
}
