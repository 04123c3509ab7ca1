import java.io.IOException;
import java.lang.reflect.Constructor;
import java.lang.reflect.Field;
import java.lang.reflect.Method;
import java.lang.reflect.Modifier;
import java.nio.file.Files;
import java.nio.file.Path;
import java.util.Arrays;
import java.util.List;
import java.util.Set;
import java.util.TreeSet;
import java.util.regex.Matcher;
import java.util.regex.Pattern;
import java.util.stream.Collectors;

/** The face as the document writes it, and the rules of LANGUAGE.md that a look can tell. */
public final class FaceTest {

    /** The calls of the document, without the names of their arguments. */
    private static final String FACE = """
        int add(int, int) throws IndexOutOfBoundsException, IllegalArgumentException
        int put(int, int, int) throws IndexOutOfBoundsException, IllegalArgumentException
        int insert(int, int, int) throws IndexOutOfBoundsException, IllegalArgumentException
        int drop(int, int) throws IndexOutOfBoundsException
        int clear(int) throws IndexOutOfBoundsException
        int copy(int, int) throws IndexOutOfBoundsException
        int join(int, int) throws IndexOutOfBoundsException
        int turn(int) throws IndexOutOfBoundsException
        int fill(int, int, int) throws IndexOutOfBoundsException, IllegalArgumentException
        int cut(int, int, int) throws IndexOutOfBoundsException
        int keep(int, int, boolean) throws IndexOutOfBoundsException, IllegalArgumentException
        int keepKind(int, int, boolean) throws IndexOutOfBoundsException, IllegalArgumentException
        int take(int, int, int) throws IndexOutOfBoundsException
        int mend(int) throws IndexOutOfBoundsException
        int kind(int) throws IllegalArgumentException
        boolean ask(int, int) throws IllegalArgumentException
        int all(int) throws IllegalArgumentException
        int nth(int, int) throws IllegalArgumentException
        int next(int, int, boolean) throws IllegalArgumentException
        int run(int, int) throws IllegalArgumentException
        int ofKind(int, int, int) throws IllegalArgumentException
        int ofQuestion(int, int, int) throws IllegalArgumentException
        int kinds(int, int) throws IllegalArgumentException
        int both(int, int) throws IllegalArgumentException
        boolean within(int, int) throws IllegalArgumentException
        int differ(int, int, int) throws IllegalArgumentException
        int length(int) throws IndexOutOfBoundsException
        int sign(int, int) throws IndexOutOfBoundsException
        String signs(int) throws IndexOutOfBoundsException
        String kindsOf(int) throws IndexOutOfBoundsException
        int count(int, int) throws IndexOutOfBoundsException, IllegalArgumentException
        int countKind(int, int) throws IndexOutOfBoundsException, IllegalArgumentException
        boolean isAll(int, int) throws IndexOutOfBoundsException, IllegalArgumentException
        int first(int, int, boolean) throws IndexOutOfBoundsException, IllegalArgumentException
        boolean alike(int, int) throws IndexOutOfBoundsException
        boolean isName(int) throws IndexOutOfBoundsException
        int fault(int) throws IndexOutOfBoundsException
        int sort(int, int, int) throws IndexOutOfBoundsException
        int longest(int, int) throws IndexOutOfBoundsException
        int pieces(int) throws IndexOutOfBoundsException
        int piece(int, int, int) throws IndexOutOfBoundsException, IllegalArgumentException
        String sorts(int) throws IndexOutOfBoundsException
        int cuts(int) throws IndexOutOfBoundsException
        int back(int) throws IndexOutOfBoundsException
        int fewest(int) throws IndexOutOfBoundsException
        int parted(int, int) throws IndexOutOfBoundsException, IllegalArgumentException
        int house(int) throws IllegalArgumentException
        int knock()
        boolean isSound()
        long digest()
        """;

    /** Rule 6. */
    private static final String EXCEPTIONS = "(IllegalState|IllegalArgument|IndexOutOfBounds|Arithmetic"
        + "|UnsupportedOperation|NoSuchElement|Runtime)Exception";

    /** Rules 2, 4, 5, 6, 10 and 13, and no package line; an arrow is let behind a case alone. */
    private static final List<String> RULED_OUT = List.of("^\\s*package\\b",
        "^\\s*import\\s+(?!java\\.util\\.(ArrayList|List|Arrays|Iterator|NoSuchElementException);).*",
        "^(?!\\s*(case|default)\\b).*->.*", "::", "\\bfinally\\b", "\\bsynchronized\\b", "\\bassert\\b",
        "\\bgetMessage\\b", "\\w*Exact\\(", "\\bSystem\\.(?!arraycopy\\b)\\w*", "\\bThread\\b",
        "\\bRandom\\b", "\\bstatic\\s*\\{", "\"\\s*\\+", "\\+\\s*\"");

    public static void main(String[] args) throws IOException {
        methods();
        members();
        source(Files.readString(Path.of("src/main/java/Kindcutter.java")));
        Tally.end();
    }

    /** Each line of the face is a method here with just its exceptions, and none else. */
    private static void methods() {
        Set<String> want = new TreeSet<>(FACE.lines().toList());
        Set<String> given = new TreeSet<>();
        for (Method method : Kindcutter.class.getDeclaredMethods()) {
            if (Modifier.isPublic(method.getModifiers())) {
                String thrown = names(method.getExceptionTypes());
                given.add(method.getReturnType().getSimpleName() + " " + method.getName()
                    + "(" + names(method.getParameterTypes()) + ")"
                    + (thrown.isEmpty() ? "" : " throws " + thrown));
            }
        }
        Tally.due("the face", given, want);
    }

    private static String names(Class<?>[] types) {
        return Arrays.stream(types).map(Class::getSimpleName).collect(Collectors.joining(", "));
    }

    private static void members() {
        int modifiers = Kindcutter.class.getModifiers();
        Tally.due("the class is public and final",
            Modifier.isPublic(modifiers) && Modifier.isFinal(modifiers), true);
        for (Constructor<?> made : Kindcutter.class.getDeclaredConstructors()) {
            Tally.due("public " + made, Modifier.isPublic(made.getModifiers()), true);
            Tally.due("without arguments " + made, made.getParameterCount(), 0);
        }
        Set<String> open = Arrays.stream(Kindcutter.class.getDeclaredMethods())
            .filter(method -> Modifier.isPublic(method.getModifiers()))
            .map(Method::getName).collect(Collectors.toSet());
        for (Method method : Kindcutter.class.getDeclaredMethods()) {
            if (method.isSynthetic()) {
                continue;
            }
            boolean isPublic = Modifier.isPublic(method.getModifiers());
            boolean isPrivate = Modifier.isPrivate(method.getModifiers());
            Tally.due("public or private: " + method, isPublic || isPrivate, true);
            Tally.due("a name of its own: " + method, isPublic || !open.contains(method.getName()), true);
        }
        for (Field field : Kindcutter.class.getDeclaredFields()) {
            Tally.due("private: " + field, Modifier.isPrivate(field.getModifiers()), true);
        }
        for (Class<?> inside : Kindcutter.class.getDeclaredClasses()) {
            Tally.due("static, not public: " + inside, Modifier.isStatic(inside.getModifiers())
                && !Modifier.isPublic(inside.getModifiers()), true);
            for (Field field : inside.getDeclaredFields()) {
                Tally.due("a static field is final: " + field, !Modifier.isStatic(field.getModifiers())
                    || Modifier.isFinal(field.getModifiers()), true);
            }
        }
    }

    private static void source(String source) {
        String code = source.replaceAll("(?s)/\\*.*?\\*/|//[^\n]*", "");
        for (String ruledOut : RULED_OUT) {
            Matcher found = Pattern.compile(ruledOut, Pattern.MULTILINE).matcher(code);
            Tally.due("the class has " + ruledOut, found.find() ? found.group() : "none", "none");
        }
        for (Matcher thrown = Pattern.compile("throw ([^;]*);").matcher(code); thrown.find();) {
            Tally.due("throws as rule 6 says: " + thrown.group(1),
                thrown.group(1).matches("new " + EXCEPTIONS + "\\((\"[^\"]*\")?\\)"), true);
        }
    }
}
