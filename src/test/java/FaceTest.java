import java.io.IOException;
import java.lang.reflect.Constructor;
import java.lang.reflect.Field;
import java.lang.reflect.Method;
import java.lang.reflect.Modifier;
import java.nio.file.Files;
import java.nio.file.Path;
import java.util.List;
import java.util.Set;
import java.util.TreeSet;

/** The public face, and those rules of LANGUAGE.md that can be seen from outside or from the text. */
public final class FaceTest {
    private static final Checks CHECKS = new Checks("FaceTest");
    private static final Path SOURCE = Path.of("src/main/java/CoverRows.java");
    private static final Path DOCUMENT = Path.of("../shared/DOC.md");
    private static final int MOST_LINES = 60;
    private static final String FACE = "at(int, int): int, clear(): void, cost(): long, cube(): int, "
            + "diagram(int): int, divide(int): int, equal(): boolean, kernels(): int, "
            + "literal(int, int, int): boolean, order(): int, prime(int, int): int, primes(): int, "
            + "quotient(int): int, run(boolean, long): int, tautology(): boolean, to(int, int, int): boolean, "
            + "value(long, int): boolean";
    private static final List<String> FORBIDDEN = List.of("import ", "package ", "catch", "finally", "synchronized",
            "assert ", "->", "::", "Exact(", "System.", "Object", "protected ", "static {", "Random", "Thread");

    public static void main(String[] args) throws IOException {
        publicFace();
        faceOfTheDocument();
        nothingElseIsOpen();
        fields();
        text();
        shortMethods();
        CHECKS.end();
    }

    private static void publicFace() {
        CHECKS.yes("public and final", Modifier.isPublic(CoverRows.class.getModifiers())
                && Modifier.isFinal(CoverRows.class.getModifiers()));
        Set<String> methods = new TreeSet<>();
        for (Method m : CoverRows.class.getDeclaredMethods()) {
            if (Modifier.isPublic(m.getModifiers())) {
                methods.add(m.getName() + names(m.getParameterTypes()) + ": " + m.getReturnType().getName());
            }
        }
        CHECKS.same("public methods", FACE, String.join(", ", methods));
        StringBuilder constructors = new StringBuilder();
        for (Constructor<?> c : CoverRows.class.getDeclaredConstructors()) {
            constructors.append(names(c.getParameterTypes()));
        }
        CHECKS.same("constructors", "(int, int)", constructors.toString());
    }

    /** Line for line, so that what each method says it throws, and in which order, is looked at too. */
    private static void faceOfTheDocument() throws IOException {
        String source = Files.readString(SOURCE).replaceAll("\\s+", " ");
        boolean inside = false;
        int members = 0;
        for (String line : Files.readAllLines(DOCUMENT)) {
            if (line.startsWith("```")) {
                inside = line.equals("```java");
            } else if (inside && line.startsWith("    public ")) {
                String head = line.strip();
                String body = head.contains(" = ") ? head : head.substring(0, head.length() - 1) + " {";
                CHECKS.yes("written in the source: " + head, source.contains(" " + body));
                members++;
            }
        }
        CHECKS.same("members of the document's face", 19, members);
    }

    private static String names(Class<?>[] types) {
        StringBuilder text = new StringBuilder("(");
        for (Class<?> t : types) {
            text.append(text.length() == 1 ? "" : ", ").append(t.getName());
        }
        return text.append(')').toString();
    }

    private static void nothingElseIsOpen() {
        Set<String> face = new TreeSet<>();
        for (Method m : CoverRows.class.getMethods()) {
            if (m.getDeclaringClass() == CoverRows.class) {
                face.add(m.getName());
            }
        }
        for (Method m : CoverRows.class.getDeclaredMethods()) {
            if (!Modifier.isPublic(m.getModifiers())) {
                CHECKS.yes(m.getName() + " is private", Modifier.isPrivate(m.getModifiers()));
                CHECKS.no(m.getName() + " bears a public name", face.contains(m.getName()));
            }
        }
        for (Field f : CoverRows.class.getDeclaredFields()) {
            boolean isNone = f.getName().equals("NONE");
            CHECKS.same(f.getName() + " is public", Checks.bit(isNone), Checks.bit(Modifier.isPublic(f.getModifiers())));
            CHECKS.same(f.getName() + " is private", Checks.bit(!isNone),
                    Checks.bit(Modifier.isPrivate(f.getModifiers())));
        }
        for (Class<?> c : CoverRows.class.getDeclaredClasses()) {
            CHECKS.yes(c.getName() + " is static", Modifier.isStatic(c.getModifiers()));
            CHECKS.no(c.getName() + " is public", Modifier.isPublic(c.getModifiers()));
            for (Method m : c.getDeclaredMethods()) {
                CHECKS.no(c.getName() + "." + m.getName() + " bears a public name", face.contains(m.getName()));
                CHECKS.yes(m.getName() + " takes at most seven", m.getParameterCount() <= 7);
            }
        }
    }

    private static void fields() {
        Class<?>[] inside = CoverRows.class.getDeclaredClasses();
        CHECKS.yes("at most twelve classes", inside.length < 12);
        fieldsOf(CoverRows.class);
        for (Class<?> c : inside) {
            fieldsOf(c);
        }
    }

    private static void fieldsOf(Class<?> c) {
        int own = 0;
        for (Field f : c.getDeclaredFields()) {
            if (Modifier.isStatic(f.getModifiers())) {
                CHECKS.yes(c.getName() + "." + f.getName() + " is final", Modifier.isFinal(f.getModifiers()));
            } else {
                CHECKS.yes(c.getName() + "." + f.getName() + " is private", Modifier.isPrivate(f.getModifiers()));
                own++;
            }
        }
        CHECKS.yes(c.getName() + " has at most twenty fields", own <= 20);
    }

    /** A method of the class stands four blanks in, one of a class inside it eight. */
    private static void shortMethods() throws IOException {
        String outer = "";
        int outerLines = 0;
        int innerLines = 0;
        for (String line : Files.readAllLines(SOURCE)) {
            outer = isHead(line, "    ") ? line : outer;
            outerLines = isHead(line, "    ") ? 1 : outerLines + 1;
            innerLines = isHead(line, "        ") ? 1 : innerLines + 1;
            boolean inClass = outer.contains(" class ");
            if (line.equals(inClass ? "        }" : "    }")) {
                CHECKS.yes("a short method in: " + outer, (inClass ? innerLines : outerLines) <= MOST_LINES);
            }
        }
    }

    private static boolean isHead(String line, String blanks) {
        return line.startsWith(blanks) && line.length() > blanks.length() && line.charAt(blanks.length()) != ' '
                && line.endsWith(" {");
    }

    /** Things are made by constructors and throws alone, so the calls fill no room. */
    private static void text() throws IOException {
        for (String line : Files.readAllLines(SOURCE)) {
            String code = line.strip();
            if (code.startsWith("*") || code.startsWith("/**")) {
                continue;
            }
            for (String word : FORBIDDEN) {
                CHECKS.no("\"" + word + "\" in: " + code, code.contains(word));
            }
            if (code.contains("new ")) {
                CHECKS.yes("made with the object or thrown: " + code, code.startsWith("private final ")
                        || code.startsWith("this.") || code.startsWith("throw new ")
                        || code.equals("Products products = new Products(this.inputs);"));
            }
        }
    }
}
