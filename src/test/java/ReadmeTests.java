import java.lang.reflect.Method;
import java.nio.file.Files;
import java.nio.file.Path;
import java.util.regex.Matcher;
import java.util.regex.Pattern;

/** README.md says how to use the class: its example is played, and its table has each call. */
public final class ReadmeTests extends Checks {
    private static final Pattern TEXT = Pattern.compile("for \\(char sign : \"(.*)\"\\.toCharArray\\(\\)\\) \\{");
    private static final Pattern CALL = Pattern.compile("laws\\.(\\w+)\\(([-0-9, ]*)\\); +// (-?[0-9.]+): .*");
    private static final Pattern FRAME = Pattern.compile("(FollowedLaws laws = new FollowedLaws\\(\\);|"
            + "    laws\\.append\\(sign\\);|\\})");

    public static void main(String[] args) throws Exception {
        String readme = Files.readString(Path.of("README.md"));
        about = "README.md";
        example(readme.replaceFirst("(?s).*```java\n", "").replaceFirst("(?s)```.*", ""));
        for (Method method : FollowedLaws.class.getDeclaredMethods()) {
            if (java.lang.reflect.Modifier.isPublic(method.getModifiers())) {
                Pattern row = Pattern.compile("(?m)^\\|.*`" + method.getName() + "\\(([a-z, ]*)\\)`.*\\|$");
                Matcher cell = row.matcher(readme);
                boolean there = cell.find();
                holds("a row of " + method.getName(), there);
                is("arguments of " + method.getName(), there ? arguments(cell.group(1)).length : NONE,
                        method.getParameterCount());
            }
        }
        System.out.println("ReadmeTests: " + passed + " passed, " + failed + " failed");
        if (failed != 0) {
            System.exit(1);
        }
    }

    private static void example(String lines) throws ReflectiveOperationException {
        FollowedLaws laws = new FollowedLaws();
        int calls = 0;
        for (String line : lines.split("\n")) {
            Matcher text = TEXT.matcher(line);
            Matcher call = CALL.matcher(line);
            if (text.matches()) {
                type(laws, text.group(1));
            } else if (call.matches()) {
                calls++;
                is(line, answer(laws, call.group(1), arguments(call.group(2))), Double.parseDouble(call.group(3)));
            } else {
                holds("a line that can be played: " + line, FRAME.matcher(line).matches());
            }
        }
        holds("the example has calls", calls > 9);
    }

    private static String[] arguments(String list) {
        return list.isBlank() ? new String[0] : list.split(", ");
    }

    private static double answer(FollowedLaws laws, String name, String[] arguments) throws ReflectiveOperationException {
        Class<?>[] types = new Class<?>[arguments.length];
        Object[] values = new Object[arguments.length];
        for (int k = 0; k < arguments.length; k++) {
            types[k] = int.class;
            values[k] = Integer.valueOf(arguments[k]);
        }
        return ((Number) FollowedLaws.class.getMethod(name, types).invoke(laws, values)).doubleValue();
    }
}
