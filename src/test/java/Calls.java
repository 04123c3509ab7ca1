import java.lang.reflect.InvocationTargetException;
import java.lang.reflect.Method;
import java.util.HashMap;
import java.util.List;
import java.util.Map;

/** Calls by their names, of the class and of its plain model alike. */
final class Calls {

    static final String NO_PLACE = "throws.IndexOutOfBoundsException";
    static final String NO_VALUE = "throws.IllegalArgumentException";

    /** What the document lets one object be used for. */
    static final int MOST = 512;

    static final List<String> ACTS = List.of("add", "put", "insert", "drop", "clear", "copy", "join",
        "turn", "fill", "cut", "keep", "keepKind", "take", "mend");

    /** Each call of the face, promise 2 first, with what its arguments are. */
    static final List<String> ALL = """
        add text sign
        put text place sign
        insert text place sign
        drop text place
        clear text
        copy text text
        join text text
        turn text
        fill text sign many
        cut text place place
        keep text question is
        keepKind text kind is
        take text k text
        mend text
        kind sign
        ask sign question
        all sign
        nth kind sign
        next question sign is
        run question sign
        ofKind kind sign sign
        ofQuestion question sign sign
        kinds sign sign
        both kind question
        within question question
        differ question question sign
        length text
        sign text place
        signs text
        kindsOf text
        count text question
        countKind text kind
        isAll text question
        first text question is
        alike text text
        isName text
        fault text
        sort text place place
        longest text place
        pieces text
        piece text k what
        sorts text
        cuts text
        back text
        fewest text
        parted text set
        house what
        knock
        isSound
        digest
        """.lines().toList();

    private static final Map<String, Method> METHODS = new HashMap<>();

    private Calls() {
    }

    /** Told as text; an exception as its name behind "throws.". */
    static String answer(Object cutter, String name, Object... arguments) {
        try {
            return String.valueOf(method(cutter.getClass(), name).invoke(cutter, arguments));
        } catch (InvocationTargetException e) {
            return "throws." + e.getCause().getClass().getSimpleName();
        } catch (IllegalAccessException e) {
            throw new IllegalStateException(e);
        }
    }

    /** A call as the document writes it, with MIN and MAX for the least and the greatest int. */
    static String answer(Object cutter, String call) {
        String name = call.substring(0, call.indexOf('('));
        String inside = call.substring(name.length() + 1, call.indexOf(')'));
        String[] words = inside.isEmpty() ? new String[0] : inside.split(", ");
        Object[] arguments = new Object[words.length];
        for (int i = 0; i < words.length; i++) {
            arguments[i] = argument(words[i]);
        }
        return answer(cutter, name, arguments);
    }

    private static Object argument(String word) {
        return switch (word) {
            case "true" -> true;
            case "false" -> false;
            case "MIN" -> Integer.MIN_VALUE;
            case "MAX" -> Integer.MAX_VALUE;
            default -> Integer.parseInt(word);
        };
    }

    private static Method method(Class<?> type, String name) {
        return METHODS.computeIfAbsent(type.getName() + " " + name, key -> {
            for (Method method : type.getDeclaredMethods()) {
                if (method.getName().equals(name)) {
                    return method;
                }
            }
            throw new IllegalStateException("no call " + key);
        });
    }
}
