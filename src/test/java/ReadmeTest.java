import java.io.File;
import java.io.IOException;
import java.lang.reflect.Method;
import java.lang.reflect.Modifier;
import java.nio.file.Files;
import java.nio.file.Path;

/** README.md: its examples answer what it says, line by line, and it names each call of the face and each test. */
public final class ReadmeTest {
    private static String[] lines;
    /** The line of the README that was held last: the examples are calls on one object, in their order. */
    private static int at = -1;

    /** Goes on to the next line that calls the desk, which has to be this call with this answer. */
    private static void says(String call, long got, long want) {
        do {
            at++;
        } while (at < lines.length && !lines[at].startsWith("desk."));
        String line = at < lines.length ? lines[at] : "nothing";
        Due.holds(call + " // " + want + " in the README, which says " + line,
                line.matches("\\Q" + call + "\\E; +// " + want + "(,.*)?"));
        Due.due(call, got, want);
    }

    private static void examples() {
        HandoverDesk desk = new HandoverDesk();
        says("desk.open()", desk.open(), 0);
        says("desk.open()", desk.open(), 1);
        says("desk.learn(0, 0, 60)", desk.learn(0, 0, 60), 60);
        says("desk.learn(0, 1, 90)", desk.learn(0, 1, 90), 90);
        says("desk.check(1)", desk.check(1), 1);
        says("desk.check(0)", desk.check(0), 2);
        says("desk.leastMinutes()", desk.leastMinutes(), 20);
        says("desk.endShift()", desk.endShift(), 1);
        says("desk.count(1)", desk.count(1), 1);
        says("desk.ofTopic(0, 1)", desk.ofTopic(0, 1), 1);
        says("desk.call(0)", desk.call(0), 31);
        says("desk.undo()", desk.undo(), 5);
        says("desk.set(HandoverDesk.KNOWN, 101)", desk.set(HandoverDesk.KNOWN, 101), HandoverDesk.BAD_VALUE);
        says("desk.put(packed(\"o;l3.2+7\"))", desk.put(Due.packed("o;l3.2+7")), 8);
        says("desk.put(packed(\"5;e;\"))", desk.put(Due.packed("5;e;")), 12);
        says("desk.fault()", desk.fault(), 12);
        says("desk.put(packed(\"e\"))", desk.put(Due.packed("e")), 13);
        says("desk.fault()", desk.fault(), HandoverDesk.NONE);
        says("desk.carryOut()", desk.carryOut(), 4);
        says("desk.level(3, 2)", desk.level(3, 2), 60);
        says("desk.save(0)", desk.save(0), 3);
        says("desk.endShift()", desk.endShift(), 0);
        says("desk.restore(0)", desk.restore(0), 3);
    }

    private static void noExampleIsLeft() {
        for (int i = at + 1; i < lines.length; i++) {
            Due.holds("held by a test: " + lines[i], !lines[i].startsWith("desk."));
        }
    }

    private static void namesAll(String readme) {
        for (Method method : HandoverDesk.class.getDeclaredMethods()) {
            if (Modifier.isPublic(method.getModifiers())) {
                Due.holds("named: " + method.getName(), readme.contains("`" + method.getName() + "`"));
            }
        }
        String[] files = new File("src/test/java").list();
        Due.holds("the tests are found", files != null && files.length > 0);
        for (String file : files == null ? new String[0] : files) {
            if (file.endsWith("Test.java")) {
                String name = file.substring(0, file.length() - ".java".length());
                Due.holds("named: " + name, readme.contains("| " + name + " |"));
            }
        }
    }

    public static void main(String[] args) throws IOException {
        String readme = Files.readString(Path.of("README.md"));
        lines = readme.split("\n");
        examples();
        noExampleIsLeft();
        namesAll(readme);
        Due.end();
    }
}
