import java.io.IOException;
import java.lang.reflect.Constructor;
import java.lang.reflect.Field;
import java.lang.reflect.Member;
import java.lang.reflect.Method;
import java.lang.reflect.Modifier;
import java.nio.file.Files;
import java.nio.file.Path;
import java.util.ArrayList;
import java.util.List;
import java.util.TreeSet;

/** The public face is the document's, word for word, and nothing else can be seen from outside. */
public final class FaceTest {
    private static final Path DOCUMENT = Path.of("../shared/DOC.md");
    private static final Path PROGRAM = Path.of("src/main/java/FleetSettings.java");

    public static void main(String[] args) throws IOException {
        faceStandsWordForWord();
        nothingElseIsVisible();
        constantsHaveTheirValues();
        Check.end("FaceTest");
    }

    private static List<String> linesOfTheFace() throws IOException {
        List<String> lines = new ArrayList<>();
        boolean isInside = false;
        for (String line : Files.readAllLines(DOCUMENT)) {
            if (line.startsWith("public final class FleetSettings")) {
                isInside = true;
            } else if (isInside && line.equals("}")) {
                return lines;
            } else if (isInside) {
                lines.add(line);
            }
        }
        return lines;
    }

    private static void faceStandsWordForWord() throws IOException {
        List<String> program = Files.readAllLines(PROGRAM);
        List<String> face = linesOfTheFace();
        Check.due("lines of the face", 33, face.size());
        for (String line : face) {
            boolean isCall = line.endsWith(");") || line.contains(" throws ");
            String want = isCall ? line.substring(0, line.length() - 1) + " {" : line;
            Check.due("the program has the line " + want, true, program.contains(want));
        }
    }

    private static void nothingElseIsVisible() throws IOException {
        TreeSet<String> names = new TreeSet<>();
        TreeSet<String> privateNames = new TreeSet<>();
        int visible = 0;
        for (Method method : FleetSettings.class.getDeclaredMethods()) {
            if (Modifier.isPublic(method.getModifiers())) {
                names.add(method.getName());
            } else {
                privateNames.add(method.getName());
            }
        }
        List<Member> members = new ArrayList<>();
        members.addAll(List.of(FleetSettings.class.getDeclaredMethods()));
        members.addAll(List.of(FleetSettings.class.getDeclaredFields()));
        members.addAll(List.of(FleetSettings.class.getDeclaredConstructors()));
        for (Member member : members) {
            boolean isPrivate = Modifier.isPrivate(member.getModifiers()) || member.isSynthetic();
            visible += isPrivate ? 0 : 1;
        }
        Check.due("public methods", 29, names.size());
        Check.due("visible members: 29 methods, 7 constants, 1 constructor", 37, visible);
        privateNames.retainAll(names);
        Check.due("private methods with public names", "[]", privateNames.toString());
        int modifiers = FleetSettings.class.getModifiers();
        Check.due("the class is public and final", true, Modifier.isPublic(modifiers) && Modifier.isFinal(modifiers));
        for (Constructor<?> constructor : FleetSettings.class.getConstructors()) {
            Check.due("arguments of the constructor", 0, constructor.getParameterCount());
        }
        for (Field field : FleetSettings.class.getDeclaredFields()) {
            boolean isGood = !Modifier.isStatic(field.getModifiers()) || Modifier.isFinal(field.getModifiers());
            Check.due("static and not final: " + field.getName(), true, isGood);
        }
    }

    private static void constantsHaveTheirValues() {
        Check.due("NONE", -1, FleetSettings.NONE);
        Check.due("MASK", 100, FleetSettings.MASK);
        Check.due("CLEAR", 101, FleetSettings.CLEAR);
        Check.due("OPEN", 0, FleetSettings.OPEN);
        Check.due("HELD", 1, FleetSettings.HELD);
        Check.due("VOID", 2, FleetSettings.VOID);
        Check.due("WITHDRAWN", 3, FleetSettings.WITHDRAWN);
    }
}
