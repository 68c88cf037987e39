import java.lang.reflect.Constructor;
import java.lang.reflect.Field;
import java.lang.reflect.Method;
import java.lang.reflect.Modifier;
import java.util.Arrays;
import java.util.TreeSet;

/** The public face: what the document names, and nothing else that is not private. */
public final class FaceTests {
    private static final String[] FACE = {
        "NONE int",
        "new(int,int) ",
        "patterns(int,int,int) int IllegalArgumentException",
        "ordered(int) int IllegalArgumentException",
        "put(int,int,int,boolean) boolean IndexOutOfBoundsException",
        "cell(int,int,int) boolean IndexOutOfBoundsException",
        "grid(int,int,int,int,int,int) int IllegalArgumentException",
        "where(int,int,int) int IndexOutOfBoundsException IllegalArgumentException",
        "outside(int,int) boolean IndexOutOfBoundsException",
        "grey(int,int,int) boolean IndexOutOfBoundsException IllegalArgumentException",
        "greyAt(int,int) int IndexOutOfBoundsException",
        "way(int,int) int IllegalArgumentException",
        "row(int,int) int IndexOutOfBoundsException",
        "page() int",
        "count(int,int) int IndexOutOfBoundsException",
        "shade() int",
        "compose() int",
        "at(int,int) boolean IndexOutOfBoundsException",
        "encode() int",
        "byteAt(int) int IndexOutOfBoundsException",
        "feed(int) int IllegalArgumentException UnsupportedOperationException",
        "pass() int UnsupportedOperationException",
        "decode() int",
        "context(int,int) int IndexOutOfBoundsException IllegalArgumentException",
        "told(int) int",
        "clear() void",
    };

    public static void main(String[] args) {
        Check check = new Check("the face");
        TreeSet<String> want = new TreeSet<>();
        for (String line : FACE) {
            want.add(line.trim());
        }
        check.due("the members that are not private", want, FaceTests::members);
        check.due("the class is public and final", true, () -> {
            int modifiers = HalftoneRegions.class.getModifiers();
            return Modifier.isPublic(modifiers) && Modifier.isFinal(modifiers);
        });
        check.due("NONE", -1, () -> HalftoneRegions.NONE);
        check.due("a private method named as a public one", new TreeSet<String>(), FaceTests::sharedNames);
        check.end();
    }

    private static TreeSet<String> members() {
        TreeSet<String> found = new TreeSet<>();
        for (Field field : HalftoneRegions.class.getDeclaredFields()) {
            if (!Modifier.isPrivate(field.getModifiers())) {
                found.add(field.getName() + " " + field.getType().getSimpleName());
            }
        }
        for (Constructor<?> made : HalftoneRegions.class.getDeclaredConstructors()) {
            if (!Modifier.isPrivate(made.getModifiers())) {
                found.add("new(" + names(made.getParameterTypes(), ",") + ")");
            }
        }
        for (Method method : HalftoneRegions.class.getDeclaredMethods()) {
            if (!Modifier.isPrivate(method.getModifiers())) {
                String throwing = names(method.getExceptionTypes(), " ");
                found.add((method.getName() + "(" + names(method.getParameterTypes(), ",") + ") "
                        + method.getReturnType().getSimpleName() + " " + throwing).trim());
            }
        }
        return found;
    }

    private static String names(Class<?>[] types, String between) {
        return String.join(between, Arrays.stream(types).map(Class::getSimpleName).toList());
    }

    private static TreeSet<String> sharedNames() {
        TreeSet<String> open = new TreeSet<>();
        TreeSet<String> hidden = new TreeSet<>();
        for (Method method : HalftoneRegions.class.getDeclaredMethods()) {
            (Modifier.isPrivate(method.getModifiers()) ? hidden : open).add(method.getName());
        }
        for (Class<?> inside : HalftoneRegions.class.getDeclaredClasses()) {
            for (Method method : inside.getDeclaredMethods()) {
                hidden.add(method.getName());
            }
        }
        hidden.retainAll(open);
        return hidden;
    }
}
