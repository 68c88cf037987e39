import java.io.IOException;
import java.lang.reflect.Constructor;
import java.lang.reflect.Executable;
import java.lang.reflect.Field;
import java.lang.reflect.Method;
import java.lang.reflect.Modifier;
import java.nio.file.Files;
import java.nio.file.Path;
import java.util.Arrays;
import java.util.List;
import java.util.TreeSet;

/** The public face: what the document names, with the exceptions, and nothing else that is not private. */
public final class FaceTests {
    private static final Path SOURCE = Path.of("src", "main", "java", "HalftoneRegions.java");
    private static final Document DOCUMENT = new Document();

    public static void main(String[] args) {
        Check check = new Check("the face");
        check.due("a constant, a constructor and 24 methods in the document", 26, () -> DOCUMENT.face().size());
        check.due("the members that are not private", asked(), FaceTests::members);
        check.due("lines of the face that the source has not, by the letter", List.of(), FaceTests::missingLines);
        check.due("the promises' calls, behind the constant", DOCUMENT.calls(), FaceTests::callsOfFace);
        check.due("the class is public and final", true, () -> {
            int modifiers = HalftoneRegions.class.getModifiers();
            return Modifier.isPublic(modifiers) && Modifier.isFinal(modifiers);
        });
        check.due("NONE", -1, () -> HalftoneRegions.NONE);
        check.due("a private method named as a public one", new TreeSet<String>(), FaceTests::sharedNames);
        check.end();
    }

    /** The document's lines without the names of parameters, which reflection does not tell. */
    private static TreeSet<String> asked() {
        TreeSet<String> all = new TreeSet<>();
        for (String line : DOCUMENT.face()) {
            all.add(line.replaceAll(" = .*", "").replaceAll("(int|boolean) \\w+(?=[,)])", "$1"));
        }
        return all;
    }

    private static TreeSet<String> members() {
        TreeSet<String> found = new TreeSet<>();
        for (Field field : HalftoneRegions.class.getDeclaredFields()) {
            if (!Modifier.isPrivate(field.getModifiers())) {
                found.add(Modifier.toString(field.getModifiers()) + " " + field.getType() + " " + field.getName());
            }
        }
        for (Constructor<?> made : HalftoneRegions.class.getDeclaredConstructors()) {
            addOpen(found, made, made.getName());
        }
        for (Method method : HalftoneRegions.class.getDeclaredMethods()) {
            addOpen(found, method, method.getReturnType() + " " + method.getName());
        }
        return found;
    }

    private static void addOpen(TreeSet<String> found, Executable what, String named) {
        if (!Modifier.isPrivate(what.getModifiers())) {
            String thrown = names(what.getExceptionTypes());
            found.add(Modifier.toString(what.getModifiers()) + " " + named + "(" + names(what.getParameterTypes()) + ")"
                    + (thrown.isEmpty() ? "" : " throws " + thrown));
        }
    }

    private static String names(Class<?>[] types) {
        return String.join(", ", Arrays.stream(types).map(Class::getSimpleName).toList());
    }

    private static List<String> missingLines() {
        String source;
        try {
            source = Files.readString(SOURCE);
        } catch (IOException e) {
            throw new IllegalStateException("there is no " + SOURCE.toAbsolutePath(), e);
        }
        return DOCUMENT.face().stream()
                .filter(line -> !source.contains("\n    " + line + (line.endsWith("-1") ? ";" : " {"))).toList();
    }

    private static List<String> callsOfFace() {
        return DOCUMENT.face().stream().skip(1).map(line -> line.replace("public ", "")).toList();
    }

    private static TreeSet<String> sharedNames() {
        TreeSet<String> open = new TreeSet<>();
        TreeSet<String> hidden = new TreeSet<>();
        for (Method method : HalftoneRegions.class.getDeclaredMethods()) {
            (Modifier.isPrivate(method.getModifiers()) ? hidden : open).add(method.getName());
        }
        for (Class<?> inside : HalftoneRegions.class.getDeclaredClasses()) {
            for (Method method : inside.getDeclaredMethods()) {
                hidden.add(method.getName());
            }
        }
        hidden.retainAll(open);
        return hidden;
    }
}
