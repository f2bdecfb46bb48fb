import java.io.IOException;
import java.lang.reflect.Constructor;
import java.lang.reflect.Field;
import java.lang.reflect.Method;
import java.lang.reflect.Modifier;
import java.nio.file.Files;
import java.nio.file.Path;
import java.util.Arrays;
import java.util.List;
import java.util.Set;
import java.util.TreeSet;
import java.util.stream.Collectors;

/** The face of the document: every constant, the constructor, every method, and no other member. */
public final class FaceTest {
    private static final Checks CHECKS = new Checks();
    private static final String[] METHODS = {
        "int type(int)", "int clear()", "int nursery()", "int goodbye(int,int)", "int woman(int,int)", "int now(int)",
        "int morning(int,int,int)", "int home(int)", "int falls(int,int)", "int undo()", "int would(int,int,int)",
        "int farthest(int,int)", "int plan(int,int)", "int ways(int)", "int setback(int,int,int)",
        "int odds(int,int,int,int,int,int,int)", "int shows(int,int,int,int,int)", "int forget()", "int fits()",
        "int rate(int,int)", "int keep(int)", "int back(int)", "int count(int)", "long trace()"
    };

    public static void main(String[] args) throws Exception {
        constants();
        members();
        methodNames();
        asTheDocumentWritesIt();
        CHECKS.end();
    }

    private static void constants() {
        CHECKS.due("BAD", DoorMornings.BAD, -1);
        CHECKS.due("STATE", DoorMornings.STATE, -2);
        CHECKS.due("FULL", DoorMornings.FULL, -3);
        CHECKS.due("NONE", DoorMornings.NONE, -9);
        CHECKS.due("NO", DoorMornings.NO, -1000000);
    }

    private static void members() {
        CHECKS.holds("the class is public and final",
            Modifier.isPublic(DoorMornings.class.getModifiers()) && Modifier.isFinal(DoorMornings.class.getModifiers()));
        Set<String> found = new TreeSet<>();
        for (Method m : DoorMornings.class.getDeclaredMethods()) {
            if (m.isSynthetic() || Modifier.isPrivate(m.getModifiers())) continue;
            CHECKS.holds(m.getName() + " is public and of the object", Modifier.isPublic(m.getModifiers()) && !Modifier.isStatic(m.getModifiers()));
            found.add(m.getReturnType() + " " + m.getName() + Arrays.stream(m.getParameterTypes())
                .map(Class::getName).collect(Collectors.joining(",", "(", ")")));
        }
        CHECKS.holds("the methods are the document's: " + found, found.equals(new TreeSet<>(Arrays.asList(METHODS))));
        Set<String> fields = new TreeSet<>();
        for (Field f : DoorMornings.class.getDeclaredFields()) {
            if (!Modifier.isPrivate(f.getModifiers())) fields.add(f.getType() + " " + f.getName());
            if (Modifier.isStatic(f.getModifiers())) CHECKS.holds(f.getName() + " is final", Modifier.isFinal(f.getModifiers()));
        }
        CHECKS.holds("the constants are the document's: " + fields,
            fields.equals(Set.of("int BAD", "int STATE", "int FULL", "int NONE", "int NO")));
        Constructor<?>[] made = DoorMornings.class.getDeclaredConstructors();
        CHECKS.holds("one public constructor without arguments",
            made.length == 1 && Modifier.isPublic(made[0].getModifiers()) && made[0].getParameterCount() == 0);
        for (Class<?> inside : DoorMornings.class.getDeclaredClasses()) {
            CHECKS.holds(inside.getName() + " is static", Modifier.isStatic(inside.getModifiers()) && !Modifier.isPublic(inside.getModifiers()));
        }
    }

    private static void methodNames() {
        Set<String> publicNames = new TreeSet<>();
        for (String m : METHODS) publicNames.add(m.substring(m.indexOf(' ') + 1, m.indexOf('(')));
        for (Class<?> inside : DoorMornings.class.getDeclaredClasses()) {
            for (Method m : inside.getDeclaredMethods()) {
                CHECKS.holds(m.getName() + " is no name of the face", !publicNames.contains(m.getName()));
            }
        }
        for (Method m : DoorMornings.class.getDeclaredMethods()) {
            if (Modifier.isPrivate(m.getModifiers())) CHECKS.holds(m.getName() + " is no name of the face", !publicNames.contains(m.getName()));
            CHECKS.holds(m.getName() + " takes seven at most", m.getParameterCount() <= 7);
        }
    }

    /** Each public line of the source is the document's, in its order: the names of the numbers show theirs. */
    private static void asTheDocumentWritesIt() throws IOException {
        List<String> document = publicLines(Path.of("../shared/DOC.md"));
        List<String> source = publicLines(Path.of("src/main/java/DoorMornings.java"));
        CHECKS.due("lines of the document's face", document.size(), 1 + 2 + 1 + METHODS.length);
        CHECKS.due("public lines of the source", source.size(), document.size());
        for (int i = 0; i < document.size() && i < source.size(); i++) {
            CHECKS.holds(source.get(i) + " is " + document.get(i), source.get(i).equals(document.get(i)));
        }
    }

    /** Without what ends a line: the document puts ; where the source puts a body. */
    private static List<String> publicLines(Path file) throws IOException {
        return Files.readAllLines(file).stream().filter(line -> line.strip().startsWith("public "))
            .map(line -> line.strip().replaceAll("\\s*[;{]$", "")).collect(Collectors.toList());
    }
}
