import java.io.IOException;
import java.lang.reflect.Constructor;
import java.lang.reflect.Field;
import java.lang.reflect.Method;
import java.lang.reflect.Modifier;
import java.nio.file.Files;
import java.nio.file.Path;
import java.util.Set;
import java.util.TreeSet;

/** The public face is that of the document, and the source keeps to what of LANGUAGE.md can be told by its words. */
public final class FaceTest {
    private static final String SOURCE = "src/main/java/Satellitering.java";
    private static final String INDEX = "java.lang.IndexOutOfBoundsException";
    private static final String ARGUMENT = "java.lang.IllegalArgumentException";
    private static final String STATE = "java.lang.IllegalStateException";
    private static final String ELEMENT = "java.util.NoSuchElementException";
    /** The methods of the document's code block, each with its exceptions in the document's order. */
    private static final String[] FACE = {
        "public int addStation(int) throws " + ARGUMENT + "," + STATE,
        "public int addRelay(int,int,int,int) throws " + ARGUMENT + "," + STATE,
        "public int setCapacity(int,int) throws " + INDEX + "," + ARGUMENT,
        "public int nodes()",
        "public int placeAt(int,int) throws " + INDEX + "," + ARGUMENT,
        "public boolean see(int,int,int) throws " + INDEX + "," + ARGUMENT,
        "public int nextContact(int,int,int) throws " + INDEX + "," + ARGUMENT,
        "public int view(int,int,int) throws " + INDEX + "," + ARGUMENT,
        "public int arrival(int,int,int) throws " + INDEX + "," + ARGUMENT,
        "public int arrivalByFlooding(int,int,int) throws " + INDEX + "," + ARGUMENT,
        "public int spread(int,int,int) throws " + INDEX + "," + ARGUMENT,
        "public int send(int,int) throws " + INDEX + "," + ARGUMENT + "," + STATE,
        "public int pass(int) throws " + ARGUMENT + "," + STATE,
        "public int now()",
        "public int messages()",
        "public int nodeOf(int) throws " + INDEX,
        "public int arrivedAt(int) throws " + INDEX + "," + ELEMENT,
        "public int hops(int) throws " + INDEX,
        "public int hopNode(int,int) throws " + INDEX,
        "public int hopMinute(int,int) throws " + INDEX,
        "public int blocked(int) throws " + INDEX,
        "public int load(int) throws " + INDEX,
        "public int relayOf(int) throws " + INDEX,
        "public int handovers(int) throws " + INDEX};
    private static final String[] FORBIDDEN = {
        "package ", "->", "::", "catch", "finally", "synchronized", "assert ", "Exact(", "Thread", "System.out", "System.err", "System.exit", "System.nano", "System.current",
        "Random", "Object", "lambda", "import java.util.Arrays.", "while (true)", "for (;;)", "import static"};
    private static final Set<String> IMPORTS = Set.of(
            "import java.util.Arrays;", "import java.util.NoSuchElementException;");

    public static void main(String[] args) throws IOException {
        members();
        declarations();
        source();
        Checks.end();
    }

    private static void members() {
        Class<Satellitering> face = Satellitering.class;
        Checks.due("the class is public and final", true,
                Modifier.isPublic(face.getModifiers()) && Modifier.isFinal(face.getModifiers()));
        Set<String> due = new TreeSet<>(Set.of(FACE));
        Set<String> got = new TreeSet<>();
        Set<String> names = new TreeSet<>();
        for (Method method : face.getDeclaredMethods()) {
            if (!Modifier.isPrivate(method.getModifiers())) {
                got.add(asText(method));
                names.add(method.getName());
            }
        }
        Checks.due("the methods", due.toString(), got.toString());
        for (Method method : face.getDeclaredMethods()) {
            if (Modifier.isPrivate(method.getModifiers())) {
                Checks.due(method.getName() + " bears a public name", false, names.contains(method.getName()));
            }
        }
        for (Field field : face.getDeclaredFields()) {
            boolean open = !Modifier.isPrivate(field.getModifiers());
            Checks.due("the field " + field.getName() + " is open", field.getName().equals("NONE"), open);
            if (open) {
                Checks.due("the constant", "public static final int NONE", asText(field));
            }
        }
        Checks.due("NONE", -1, Satellitering.NONE);
        for (Class<?> inside : face.getDeclaredClasses()) {
            boolean hidden = Modifier.isStatic(inside.getModifiers())
                    && (inside.getModifiers() & (Modifier.PUBLIC | Modifier.PROTECTED)) == 0;
            Checks.due(inside.getName() + " is hidden and static", true, hidden);
        }
        Constructor<?>[] constructors = face.getDeclaredConstructors();
        Checks.due("constructors", 1, constructors.length);
        Checks.due("the constructor's parameters", 0, constructors[0].getParameterCount());
        Checks.due("the constructor's exceptions", 0, constructors[0].getExceptionTypes().length);
    }

    private static String asText(Field field) {
        return Modifier.toString(field.getModifiers()) + " " + field.getType().getName() + " " + field.getName();
    }

    private static String asText(Method method) {
        String text = Modifier.toString(method.getModifiers()) + " " + method.getReturnType().getName()
                + " " + method.getName() + "(" + names(method.getParameterTypes()) + ")";
        Class<?>[] exceptions = method.getExceptionTypes();
        return exceptions.length == 0 ? text : text + " throws " + names(exceptions);
    }

    private static String names(Class<?>[] classes) {
        StringBuilder text = new StringBuilder();
        for (int i = 0; i < classes.length; i++) {
            text.append(i == 0 ? "" : ",").append(classes[i].getName());
        }
        return text.toString();
    }

    /** Each line of the document's code block stands in the source to the word. */
    private static void declarations() throws IOException {
        String document = Files.readString(Path.of("../shared/DOC.md"));
        String source = Files.readString(Path.of(SOURCE)).replaceAll("\\s+", " ");
        int from = document.indexOf("```java\n");
        int to = document.indexOf("```\n", from + 1);
        Checks.due("the document has a code block", true, 0 <= from && from < to);
        int found = 0;
        for (String line : document.substring(Math.max(from, 0), Math.max(to, 0)).split("\n")) {
            String due = line.strip();
            if (due.startsWith("public ")) {
                found++;
                // a method goes on with its body
                due = due.contains(")") ? due.replace(";", " {") : due;
                Checks.due("the source says: " + due, true, source.contains(due));
            }
        }
        Checks.due("lines of the code block", FACE.length + 3, found);
    }

    private static void source() throws IOException {
        String source = Files.readString(Path.of(SOURCE));
        for (String word : FORBIDDEN) {
            Checks.due("the source holds " + word, false, source.contains(word));
        }
        for (String line : source.split("\n")) {
            if (line.startsWith("import ")) {
                Checks.due("the source may hold " + line, true, IMPORTS.contains(line));
            }
        }
    }
}
