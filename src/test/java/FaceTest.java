import java.io.IOException;
import java.lang.reflect.Constructor;
import java.lang.reflect.Field;
import java.lang.reflect.Method;
import java.lang.reflect.Modifier;
import java.nio.file.Files;
import java.nio.file.Path;
import java.util.Set;
import java.util.TreeSet;

/** The public face is that of the document, and the source keeps to what of LANGUAGE.md can be told by its words. */
public final class FaceTest {
    private static final String[] FACE = {
        "int addStation(int)", "int addRelay(int,int,int,int)", "int setCapacity(int,int)", "int nodes()",
        "int placeAt(int,int)", "boolean see(int,int,int)", "int nextContact(int,int,int)",
        "int view(int,int,int)", "int arrival(int,int,int)", "int arrivalByFlooding(int,int,int)",
        "int spread(int,int,int)", "int send(int,int)", "int pass(int)", "int now()", "int messages()",
        "int nodeOf(int)", "int arrivedAt(int)", "int hops(int)", "int hopNode(int,int)",
        "int hopMinute(int,int)", "int blocked(int)", "int load(int)", "int relayOf(int)", "int handovers(int)"};
    private static final String[] FORBIDDEN = {
        "package ", "->", "::", "catch", "finally", "synchronized", "assert ", "Exact(", "Thread", "System.out", "System.err", "System.exit", "System.nano", "System.current",
        "Random", "Object", "lambda", "import java.util.Arrays.", "while (true)", "for (;;)", "import static"};
    private static final Set<String> IMPORTS = Set.of(
            "import java.util.Arrays;", "import java.util.NoSuchElementException;");

    public static void main(String[] args) throws IOException {
        members();
        source();
        Checks.end();
    }

    private static void members() {
        Class<Satellitering> face = Satellitering.class;
        Checks.due("the class is public and final", true,
                Modifier.isPublic(face.getModifiers()) && Modifier.isFinal(face.getModifiers()));
        Set<String> due = new TreeSet<>(Set.of(FACE));
        Set<String> got = new TreeSet<>();
        Set<String> names = new TreeSet<>();
        for (Method method : face.getDeclaredMethods()) {
            if (!Modifier.isPrivate(method.getModifiers())) {
                got.add(asText(method));
                names.add(method.getName());
            }
        }
        Checks.due("the methods", due.toString(), got.toString());
        for (Method method : face.getDeclaredMethods()) {
            if (Modifier.isPrivate(method.getModifiers())) {
                Checks.due(method.getName() + " bears a public name", false, names.contains(method.getName()));
            }
        }
        for (Field field : face.getDeclaredFields()) {
            boolean open = !Modifier.isPrivate(field.getModifiers());
            Checks.due("the field " + field.getName() + " is open", field.getName().equals("NONE"), open);
        }
        Constructor<?>[] constructors = face.getDeclaredConstructors();
        Checks.due("constructors", 1, constructors.length);
        Checks.due("the constructor's parameters", 0, constructors[0].getParameterCount());
    }

    private static String asText(Method method) {
        StringBuilder text = new StringBuilder();
        text.append(method.getReturnType().getName()).append(' ').append(method.getName()).append('(');
        Class<?>[] parameters = method.getParameterTypes();
        for (int i = 0; i < parameters.length; i++) {
            text.append(i == 0 ? "" : ",").append(parameters[i].getName());
        }
        return text.append(')').toString();
    }

    private static void source() throws IOException {
        String source = Files.readString(Path.of("src/main/java/Satellitering.java"));
        for (String word : FORBIDDEN) {
            Checks.due("the source holds " + word, false, source.contains(word));
        }
        for (String line : source.split("\n")) {
            if (line.startsWith("import ")) {
                Checks.due("the source may hold " + line, true, IMPORTS.contains(line));
            }
        }
    }
}
