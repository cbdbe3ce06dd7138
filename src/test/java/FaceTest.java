import java.io.IOException;
import java.lang.reflect.Constructor;
import java.lang.reflect.Field;
import java.lang.reflect.Method;
import java.lang.reflect.Modifier;
import java.nio.file.Files;
import java.nio.file.Path;
import java.util.Set;
import java.util.TreeSet;

/** The public face, and those rules of LANGUAGE.md that a look at the class or its text can hold. */
public final class FaceTest {
    private static final String[] FACE = {"set(int,int):int", "roster(int,int):int", "minutes(int,int):int", "open():int",
        "turn(int):int", "check(int):int", "learn(int,int,int):int", "call(int):int", "endShift():int", "level(int,int):int",
        "ofTopic(int,int):int", "checklist(int):int", "count(int):int", "place(int,int):int", "inOrder():int", "share(int):int",
        "mean(int):long", "leastMinutes():int", "lostIn(int):int", "bestSplit(int,int):int", "put(long):int", "wipe():int",
        "fault():int", "carryOut():int", "undo():int", "save(int):int", "restore(int):int"};
    private static final String[] NOT_ALLOWED = {"import", "catch", "try", "finally", "throw", "synchronized", "assert", "->",
        "::", "Float.", "Double.", "Exact", "Object", "instanceof", "System.out", "protected", "Integer.MAX", "Integer.MIN"};

    private static void constants() {
        int[] values = {HandoverDesk.NO_SUCH, HandoverDesk.BAD_VALUE, HandoverDesk.BAD_TEXT, HandoverDesk.TOO_MANY,
            HandoverDesk.NOT_POSSIBLE, HandoverDesk.NONE};
        for (int i = 0; i < values.length; i++) {
            Due.due("code " + i, values[i], -1 - i);
        }
        int[] settings = {HandoverDesk.KNOWN, HandoverDesk.PASS, HandoverDesk.DECAY, HandoverDesk.WORK, HandoverDesk.COST,
            HandoverDesk.CALL};
        for (int i = 0; i < settings.length; i++) {
            Due.due("setting " + i, settings[i], i);
        }
    }

    private static void members() {
        Set<String> shown = new TreeSet<>();
        Set<String> names = new TreeSet<>();
        for (String method : FACE) {
            names.add(method.substring(0, method.indexOf('(')));
        }
        for (Method method : HandoverDesk.class.getDeclaredMethods()) {
            StringBuilder parameters = new StringBuilder();
            for (Class<?> type : method.getParameterTypes()) {
                parameters.append(parameters.length() == 0 ? "" : ",").append(type.getName());
            }
            Due.holds("at most seven parameters: " + method, method.getParameterCount() <= 7);
            if (Modifier.isPrivate(method.getModifiers())) {
                Due.holds("a name of its own: " + method, !names.contains(method.getName()));
            } else {
                Due.holds("public: " + method, method.getModifiers() == Modifier.PUBLIC);
                shown.add(method.getName() + "(" + parameters + "):" + method.getReturnType().getName());
            }
        }
        Due.holds("the methods of the face and no other: " + shown, shown.equals(new TreeSet<>(Set.of(FACE))));
        int constants = 0;
        for (Field field : HandoverDesk.class.getDeclaredFields()) {
            boolean constant = Modifier.isPublic(field.getModifiers());
            constants += constant ? 1 : 0;
            Due.holds("private or a constant: " + field, constant || Modifier.isPrivate(field.getModifiers()));
            Due.holds("no state of all: " + field, !Modifier.isStatic(field.getModifiers()) || Modifier.isFinal(field.getModifiers()));
        }
        Due.due("constants of the face", constants, 12);
        Constructor<?>[] constructors = HandoverDesk.class.getDeclaredConstructors();
        Due.due("constructors", constructors.length, 1);
        Due.holds("public, without parameters", constructors[0].getParameterCount() == 0
                && Modifier.isPublic(constructors[0].getModifiers()));
        Due.holds("final", Modifier.isFinal(HandoverDesk.class.getModifiers()));
    }

    private static void classesInside() {
        Class<?>[] inside = HandoverDesk.class.getDeclaredClasses();
        Due.holds("at most twelve classes", inside.length < 12);
        for (Class<?> each : inside) {
            Due.holds("private and static: " + each, Modifier.isPrivate(each.getModifiers())
                    && Modifier.isStatic(each.getModifiers()));
            int fields = 0;
            for (Field field : each.getDeclaredFields()) {
                fields += Modifier.isStatic(field.getModifiers()) ? 0 : 1;
            }
            Due.holds("at most twenty fields: " + each, fields <= 20);
        }
    }

    private static void text() throws IOException {
        String source = Files.readString(Path.of("src/main/java/HandoverDesk.java"));
        String code = source.replaceAll("(?s)/\\*.*?\\*/", "").replaceAll("//[^\n]*", "");
        for (String word : NOT_ALLOWED) {
            Due.holds("nowhere in the code: " + word, !code.contains(word));
        }
        Due.holds("signs from 1 to 127", source.chars().allMatch(sign -> sign > 0 && sign < 128));
        int made = 0;
        for (int at = code.indexOf("new "); at >= 0; at = code.indexOf("new ", at + 1)) {
            made++;
        }
        Due.holds("objects are made in constructors: " + made, made == code.split("= new ", -1).length - 1);
    }

    public static void main(String[] args) throws IOException {
        constants();
        members();
        classesInside();
        text();
        Due.end();
    }
}
