import java.io.IOException;
import java.lang.reflect.Constructor;
import java.lang.reflect.Field;
import java.lang.reflect.Method;
import java.lang.reflect.Modifier;
import java.nio.file.Files;
import java.nio.file.Path;
import java.util.List;
import java.util.Set;
import java.util.TreeSet;

/** The public face, and those rules of LANGUAGE.md that can be seen from outside or from the text. */
public final class FaceTest {
    private static final Checks CHECKS = new Checks("FaceTest");
    private static final Path SOURCE = Path.of("src/main/java/CoverRows.java");
    private static final String FACE = "at(int, int): int, clear(): void, cost(): long, cube(): int, "
            + "diagram(int): int, divide(int): int, equal(): boolean, kernels(): int, "
            + "literal(int, int, int): boolean, order(): int, prime(int, int): int, primes(): int, "
            + "quotient(int): int, run(boolean, long): int, tautology(): boolean, to(int, int, int): boolean, "
            + "value(long, int): boolean";
    private static final List<String> FORBIDDEN = List.of("import ", "package ", "catch", "finally", "synchronized",
            "assert ", "->", "::", "Exact(", "System.", "Object", "protected ", "static {", "Random", "Thread");

    public static void main(String[] args) throws IOException {
        publicFace();
        nothingElseIsOpen();
        text();
        CHECKS.end();
    }

    private static void publicFace() {
        CHECKS.yes("public and final", Modifier.isPublic(CoverRows.class.getModifiers())
                && Modifier.isFinal(CoverRows.class.getModifiers()));
        Set<String> methods = new TreeSet<>();
        for (Method m : CoverRows.class.getDeclaredMethods()) {
            if (Modifier.isPublic(m.getModifiers())) {
                methods.add(m.getName() + names(m.getParameterTypes()) + ": " + m.getReturnType().getName());
            }
        }
        CHECKS.same("public methods", FACE, String.join(", ", methods));
        StringBuilder constructors = new StringBuilder();
        for (Constructor<?> c : CoverRows.class.getDeclaredConstructors()) {
            constructors.append(names(c.getParameterTypes()));
        }
        CHECKS.same("constructors", "(int, int)", constructors.toString());
    }

    private static String names(Class<?>[] types) {
        StringBuilder text = new StringBuilder("(");
        for (Class<?> t : types) {
            text.append(text.length() == 1 ? "" : ", ").append(t.getName());
        }
        return text.append(')').toString();
    }

    private static void nothingElseIsOpen() {
        Set<String> face = new TreeSet<>();
        for (Method m : CoverRows.class.getMethods()) {
            if (m.getDeclaringClass() == CoverRows.class) {
                face.add(m.getName());
            }
        }
        for (Method m : CoverRows.class.getDeclaredMethods()) {
            if (!Modifier.isPublic(m.getModifiers())) {
                CHECKS.yes(m.getName() + " is private", Modifier.isPrivate(m.getModifiers()));
                CHECKS.no(m.getName() + " bears a public name", face.contains(m.getName()));
            }
        }
        for (Field f : CoverRows.class.getDeclaredFields()) {
            boolean isNone = f.getName().equals("NONE");
            CHECKS.same(f.getName() + " is public", Checks.bit(isNone), Checks.bit(Modifier.isPublic(f.getModifiers())));
            CHECKS.same(f.getName() + " is private", Checks.bit(!isNone),
                    Checks.bit(Modifier.isPrivate(f.getModifiers())));
        }
        for (Class<?> c : CoverRows.class.getDeclaredClasses()) {
            CHECKS.yes(c.getName() + " is static", Modifier.isStatic(c.getModifiers()));
            CHECKS.no(c.getName() + " is public", Modifier.isPublic(c.getModifiers()));
            for (Method m : c.getDeclaredMethods()) {
                CHECKS.no(c.getName() + "." + m.getName() + " bears a public name", face.contains(m.getName()));
                CHECKS.yes(m.getName() + " takes at most seven", m.getParameterCount() <= 7);
            }
        }
    }

    /** Things are made by constructors and throws alone, so the calls fill no room. */
    private static void text() throws IOException {
        for (String line : Files.readAllLines(SOURCE)) {
            String code = line.strip();
            if (code.startsWith("*") || code.startsWith("/**")) {
                continue;
            }
            for (String word : FORBIDDEN) {
                CHECKS.no("\"" + word + "\" in: " + code, code.contains(word));
            }
            if (code.contains("new ")) {
                CHECKS.yes("made with the object or thrown: " + code, code.startsWith("private final ")
                        || code.startsWith("this.") || code.startsWith("throw new ")
                        || code.equals("Products products = new Products(this.inputs);"));
            }
        }
    }
}
