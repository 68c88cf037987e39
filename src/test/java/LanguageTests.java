import java.io.IOException;
import java.lang.reflect.Executable;
import java.lang.reflect.Field;
import java.lang.reflect.Modifier;
import java.nio.file.Files;
import java.nio.file.Path;
import java.util.ArrayList;
import java.util.Arrays;
import java.util.List;
import java.util.Set;
import java.util.TreeSet;
import java.util.regex.Matcher;
import java.util.regex.Pattern;
import java.util.stream.Stream;

/** Rules of ../shared/LANGUAGE.md, by their numbers, that can be seen in the source's words or by reflection. */
public final class LanguageTests {
    private static final Path SOURCE = Path.of("src", "main", "java", "HalftoneRegions.java");
    private static final Set<String> IMPORTS = Set.of("java.util.Arrays", "java.util.ArrayList", "java.util.List");
    private static final Set<String> LIBRARY = Set.of("Math.max", "Math.min", "Math.abs", "Math.floorDiv",
            "Math.floorMod", "Integer.bitCount", "Long.bitCount", "Integer.compare", "Long.compare", "Arrays.fill",
            "Arrays.copyOf", "Arrays.copyOfRange", "System.arraycopy");
    private static final Set<Class<?>> CONSTANTS = Set.of(int.class, long.class, boolean.class, char.class,
            String.class, int[].class, long[].class, char[].class, byte[].class);
    private static final Set<Class<?>> NUMBERS = Set.of(int.class, long.class, short.class, byte.class, char.class,
            boolean.class);
    private static final int MOST_LINES = 60;
    private static final int MOST_PARAMETERS = 7;
    private static final int MOST_CLASSES = 12;
    private static final int MOST_FIELDS = 20;

    private static final Check CHECK = new Check("the language");
    private static final String CODE = code();
    private static final List<Class<?>> CLASSES = classes();

    public static void main(String[] args) {
        none("a package line", found("(?m)^package"));
        none("another import", found("import ([\\w.*]+);").filter(name -> !IMPORTS.contains(name)));
        none("1, 2: a class inside that is open, or not static", CLASSES.stream().skip(1).filter(inside ->
                !Modifier.isStatic(inside.getModifiers()) || Modifier.isPublic(inside.getModifiers())
                || Modifier.isProtected(inside.getModifiers())));
        none("2: a lambda or a method reference", found("->|::"));
        none("3: a field of another type", fields(false).filter(field -> !isPlain(field.getType())));
        none("4: another library", found("\\b([A-Z][A-Za-z]*\\.[a-z]\\w*)\\(").filter(name -> !LIBRARY.contains(name)));
        none("4: an object that is not its own", found("\\bnew ([A-Z]\\w*)\\(").filter(name -> !isMade(name)));
        none("5: static state", fields(true).filter(field -> !Modifier.isFinal(field.getModifiers())
                || !CONSTANTS.contains(field.getType())));
        none("5: a static block", found("\\bstatic\\s*\\{"));
        none("6: a throw of another form", found("throw (?!new (?:IllegalArgument|IndexOutOfBounds"
                + "|UnsupportedOperation)Exception\\(\"\"\\);).*"));
        none("6: what the class does without", found("\\b(try|catch|finally|synchronized|assert|native|volatile)\\b"));
        none("6: equals, hashCode or toString", found("\\b(equals|hashCode|toString|getMessage)\\("));
        none("6: a throw in a constructor", methods().filter(lines -> lines.get(0).matches(" *(public )?[A-Z]\\w*\\(.*")
                && String.join(" ", lines).contains("throw new")).map(lines -> lines.get(0)));
        none("11: a long method", methods().filter(lines -> lines.size() > MOST_LINES).map(lines -> lines.get(0)));
        none("11: many parameters", executables().filter(each -> each.getParameterCount() > MOST_PARAMETERS));
        none("11: many fields", CLASSES.stream().filter(each -> fields(false)
                .filter(field -> field.getDeclaringClass() == each).count() > MOST_FIELDS));
        CHECK.due("11: no more than twelve classes", true, () -> CLASSES.size() <= MOST_CLASSES);
        CHECK.due("what is looked at is there", true, () -> CLASSES.size() > 1 && methods().count() > 60
                && fields(false).count() > 20 && CODE.contains("throw new"));
        CHECK.end();
    }

    private static void none(String what, Stream<?> found) {
        CHECK.due(what, List.of(), () -> found.map(String::valueOf).toList());
    }

    /** The source without comments, and with nothing inside its texts. */
    private static String code() {
        try {
            String source = Files.readString(SOURCE).replaceAll("\"[^\"\\n]*\"", "\"\"");
            return source.replaceAll("(?s)/\\*.*?\\*/", "").replaceAll("//.*", "");
        } catch (IOException e) {
            throw new IllegalStateException("there is no " + SOURCE.toAbsolutePath(), e);
        }
    }

    private static Stream<String> found(String words) {
        TreeSet<String> all = new TreeSet<>();
        Matcher matcher = Pattern.compile(words).matcher(CODE);
        while (matcher.find()) {
            all.add(matcher.group(matcher.groupCount()));
        }
        return all.stream();
    }

    private static List<Class<?>> classes() {
        List<Class<?>> all = new ArrayList<>(List.of(HalftoneRegions.class));
        for (int n = 0; n < all.size(); n++) {
            all.addAll(Arrays.asList(all.get(n).getDeclaredClasses()));
        }
        return all;
    }

    private static Stream<Field> fields(boolean ofClass) {
        return CLASSES.stream().flatMap(each -> Arrays.stream(each.getDeclaredFields()))
                .filter(field -> Modifier.isStatic(field.getModifiers()) == ofClass);
    }

    private static Stream<Executable> executables() {
        return CLASSES.stream().flatMap(each -> Stream.concat(Arrays.stream(each.getDeclaredMethods()),
                Arrays.stream(each.getDeclaredConstructors())));
    }

    private static boolean isPlain(Class<?> type) {
        Class<?> part = type.isArray() ? type.getComponentType() : type;
        return NUMBERS.contains(part) || CLASSES.contains(part);
    }

    private static boolean isMade(String name) {
        return name.matches("(IllegalArgument|IndexOutOfBounds|UnsupportedOperation)Exception")
                || CLASSES.stream().anyMatch(each -> each.getSimpleName().equals(name));
    }

    /** Each method and constructor by its lines: from the one that opens it to the brace that stands as far in. */
    private static Stream<List<String>> methods() {
        List<List<String>> all = new ArrayList<>();
        List<String> lines = CODE.lines().toList();
        for (int n = 0; n < lines.size(); n++) {
            String line = lines.get(n);
            boolean opens = line.matches("( {4}| {8})[^ ].*\\)( throws [\\w, ]+)? \\{")
                    && !line.matches("\\s*(if|for|while|switch|\\}).*");
            if (opens) {
                String end = line.replaceAll("[^ ].*", "") + "}";
                all.add(lines.subList(n, n + lines.subList(n, lines.size()).indexOf(end) + 1));
            }
        }
        return all.stream();
    }
}
