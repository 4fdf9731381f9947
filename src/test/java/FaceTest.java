import java.io.IOException;
import java.lang.reflect.Constructor;
import java.lang.reflect.Field;
import java.lang.reflect.Member;
import java.lang.reflect.Method;
import java.lang.reflect.Modifier;
import java.nio.charset.StandardCharsets;
import java.nio.file.Files;
import java.nio.file.Paths;
import java.util.Arrays;
import java.util.List;
import java.util.Set;
import java.util.TreeSet;
import java.util.stream.Collectors;

/**
 * The class has the document's face and no other, and keeps to what LANGUAGE.md says of members.
 * It is run from the root, with the document in ../shared.
 */
public final class FaceTest {
    private static final String I = "IndexOutOfBoundsException";
    private static final String A = "IllegalArgumentException";
    private static final String S = "IllegalStateException";
    private static final String[] FACE = {
        "int addTank(int, int, int) " + A + " " + S,
        "int addSwitch(int, int, int) " + I + " " + A + " " + S,
        "int addPump(int, int, int, int, int, boolean) " + I + " " + A + " " + S,
        "int setLevel(int, int) " + I + " " + A,
        "int setLeak(int, int) " + I + " " + A,
        "int setRate(int, int) " + I + " " + A,
        "int run(int) " + A,
        "int runUntil(int, int, boolean, int) " + I + " " + A,
        "int nextChange(int) " + A,
        "long time()",
        "int level(int) " + I,
        "long levelSum(int) " + I,
        "double meanLevel(int) " + I,
        "boolean isOn(int) " + I,
        "long total(int) " + I,
        "long energy(int) " + I,
        "long shortTicks(int) " + I,
        "long balance()",
        "long changeCount()",
        "long changeTime(int) " + I,
        "int changeSwitch(int) " + I,
        "int save() " + S,
        "int restore() " + S,
        "long digest()",
    };

    private static final Due due = new Due();

    public static void main(String[] args) throws IOException {
        Class<?> face = TankPlant.class;
        due.is("the class", "public final", () -> Modifier.toString(face.getModifiers()));
        due.is("its package", "", () -> face.getPackageName());
        Set<String> publicNames = methods(face);
        constructors(face);
        for (Field f : face.getDeclaredFields()) {
            due.holds("field " + f.getName() + " is private", isPrivate(f));
        }
        due.holds("at most twelve classes", face.getDeclaredClasses().length <= 11);
        members(face, publicNames);
        for (Class<?> inside : face.getDeclaredClasses()) {
            int modifiers = inside.getModifiers();
            due.holds("class " + inside + " is static", Modifier.isStatic(modifiers));
            due.holds("class " + inside + " is not open", !Modifier.isPublic(modifiers) && !Modifier.isProtected(modifiers));
            members(inside, publicNames);
        }
        textOfTheFace();
        due.end();
    }

    /** Each signature stands in the source as in the document, the names of its parameters too. */
    private static void textOfTheFace() throws IOException {
        String document = read("../shared/DOC.md");
        String face = document.substring(document.indexOf("## The public face"), document.indexOf("## Description"));
        List<String> signatures = face.lines().map(line -> line.trim())
                .filter(line -> line.startsWith("public ") && line.endsWith(";")).collect(Collectors.toList());
        String source = read("src/main/java/TankPlant.java").replaceAll("\\s+", " ");
        for (String signature : signatures) {
            due.holds(signature, source.contains(" " + signature.replace(";", " {")));
        }
        due.is("the signatures in the document", 1 + FACE.length, () -> signatures.size());
        due.is("what is public, with the class", 1 + signatures.size(), () -> source.split("public ", -1).length - 1);
    }

    private static String read(String file) throws IOException {
        return Files.readString(Paths.get(file), StandardCharsets.UTF_8);
    }

    private static Set<String> methods(Class<?> face) {
        Set<String> shown = new TreeSet<>();
        Set<String> names = new TreeSet<>();
        for (Method m : face.getDeclaredMethods()) {
            if (!isPrivate(m) && !m.isSynthetic()) {
                shown.add(textOf(m));
                names.add(m.getName());
                due.is(m.getName(), "public", () -> Modifier.toString(m.getModifiers()));
            }
        }
        due.is("the methods", new TreeSet<>(Arrays.asList(FACE)), () -> shown);
        return names;
    }

    private static void constructors(Class<?> face) {
        due.is("the constructors", 1, () -> face.getDeclaredConstructors().length);
        for (Constructor<?> c : face.getDeclaredConstructors()) {
            due.is("the constructor", "public TankPlant()", () -> c.toString());
        }
    }

    private static void members(Class<?> c, Set<String> publicNames) {
        int fields = 0;
        for (Field f : c.getDeclaredFields()) {
            boolean isConstant = Modifier.isStatic(f.getModifiers());
            fields += isConstant ? 0 : 1;
            due.holds("static " + f + " is final", !isConstant || Modifier.isFinal(f.getModifiers()));
        }
        due.holds("some twenty fields in " + c, fields <= 20);
        for (Method m : c.getDeclaredMethods()) {
            due.holds("at most seven parameters: " + m, m.getParameterCount() <= 7);
            boolean isFace = c == TankPlant.class && Modifier.isPublic(m.getModifiers());
            due.holds("a name of its own: " + m, isFace || !publicNames.contains(m.getName()));
        }
    }

    private static boolean isPrivate(Member m) {
        return Modifier.isPrivate(m.getModifiers());
    }

    private static String textOf(Method m) {
        StringBuilder text = new StringBuilder();
        text.append(m.getReturnType().getSimpleName()).append(' ').append(m.getName()).append('(');
        String separator = "";
        for (Class<?> parameter : m.getParameterTypes()) {
            text.append(separator).append(parameter.getSimpleName());
            separator = ", ";
        }
        text.append(')');
        for (Class<?> thrown : m.getExceptionTypes()) {
            text.append(' ').append(thrown.getSimpleName());
        }
        return text.toString();
    }
}
