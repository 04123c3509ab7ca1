import java.io.IOException;
import java.lang.reflect.Method;
import java.lang.reflect.Modifier;
import java.nio.file.Files;
import java.nio.file.Path;
import java.util.Arrays;
import java.util.Set;
import java.util.TreeSet;
import java.util.regex.MatchResult;
import java.util.regex.Pattern;

/** README.md: its example answers as it says, and its tables tell of each call what it throws. */
public final class ReadmeTest {

    private static final Pattern EXAMPLE = Pattern.compile("(?m)^x\\.(.*\\));\\s*// (.*)$");
    private static final Pattern CHAR = Pattern.compile("'(.)'");

    /** The call with its arguments; then what comes ahead of the last two cells, and these. */
    private static final Pattern ROW =
        Pattern.compile("(?m)^\\| `(\\w+)\\((.*?)\\)` \\|.*\\|([^|\\n]*)\\|([^|\\n]*)\\|$");

    public static void main(String[] args) throws IOException {
        String readme = Files.readString(Path.of("README.md"));
        example(readme);
        tables(readme);
        Tally.end();
    }

    private static void example(String readme) {
        Kindcutter x = new Kindcutter();
        int examples = 0;
        for (MatchResult line : EXAMPLE.matcher(readme).results().toList()) {
            String call = CHAR.matcher(line.group(1))
                .replaceAll(sign -> String.valueOf((int) sign.group(1).charAt(0)));
            String want = line.group(2).replace("throws ", "throws.").replace("\"", "");
            Tally.due(line.group(1), Calls.answer(x, call), want);
            examples++;
        }
        Tally.due("README.md has examples", examples > 0, true);
    }

    private static void tables(String readme) {
        Set<String> told = new TreeSet<>();
        for (MatchResult row : ROW.matcher(readme).results().toList()) {
            int arguments = row.group(2).isEmpty() ? 0 : row.group(2).split(", ").length;
            told.add(call(row.group(1), arguments, !row.group(3).isBlank(), !row.group(4).isBlank()));
        }
        Set<String> face = new TreeSet<>();
        for (Method method : Kindcutter.class.getDeclaredMethods()) {
            if (Modifier.isPublic(method.getModifiers())) {
                Set<Class<?>> thrown = Set.copyOf(Arrays.asList(method.getExceptionTypes()));
                face.add(call(method.getName(), method.getParameterCount(),
                    thrown.contains(IndexOutOfBoundsException.class),
                    thrown.contains(IllegalArgumentException.class)));
            }
        }
        Tally.due("the tables of README.md", told, face);
    }

    private static String call(String name, int arguments, boolean isIndex, boolean isArgument) {
        return name + " of " + arguments + (isIndex ? " index" : "") + (isArgument ? " argument" : "");
    }
}
