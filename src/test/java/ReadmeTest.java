import java.lang.reflect.Method;
import java.nio.charset.StandardCharsets;
import java.nio.file.Files;
import java.nio.file.Path;
import java.util.Set;
import java.util.TreeSet;
import java.util.regex.Matcher;
import java.util.regex.Pattern;

/** The examples of README.md: each call answers the number behind its //, and each example is read whole. */
public final class ReadmeTest {
    private static final Pattern EXAMPLE = Pattern.compile("```java\n(.*?)```", Pattern.DOTALL);
    private static final Pattern CALL = Pattern.compile("x\\.(\\w+)\\((.*?)\\); +// (-?\\d+)(: .*)?");
    private static int wrong = 0;
    private static int looked = 0;

    private static void notSo(String what) {
        wrong++;
        System.out.println("README.md: " + what);
    }

    private static long number(String word) {
        return word.startsWith("'") ? word.charAt(1) : Long.parseLong(word);
    }

    private static long answer(OwedDays x, String name, String told) throws ReflectiveOperationException {
        for (Method method : OwedDays.class.getMethods()) {
            Class<?>[] types = method.getParameterTypes();
            String[] words = told.isEmpty() ? new String[0] : told.split(", ");
            if (method.getName().equals(name) && types.length == words.length) {
                Object[] numbers = new Object[words.length];
                for (int i = 0; i < words.length; i++) {
                    long number = number(words[i]);
                    numbers[i] = types[i] == long.class ? (Object) number : (Object) (int) number;
                }
                return ((Number) method.invoke(x, numbers)).longValue();
            }
        }
        throw new IllegalStateException(name + "(" + told + ")");
    }

    private static void example(String lines, Set<String> shown) throws ReflectiveOperationException {
        OwedDays x = new OwedDays();
        for (String line : lines.split("\n")) {
            Matcher call = CALL.matcher(line);
            if (call.matches()) {
                looked++;
                shown.add(call.group(1));
                long got = answer(x, call.group(1), call.group(2));
                if (got != Long.parseLong(call.group(3))) {
                    notSo("\"" + line + "\" answered " + got);
                }
            } else if (!line.equals("OwedDays x = new OwedDays();")) {
                notSo("\"" + line + "\" tells no call and its answer");
            }
        }
    }

    public static void main(String[] args) throws Exception {
        Path source = Path.of(System.getProperty("owed.source", "src/main/java/OwedDays.java"));
        Path readme = source.toAbsolutePath().getParent().resolve("../../../README.md").normalize();
        Matcher examples = EXAMPLE.matcher(Files.readString(readme, StandardCharsets.UTF_8));
        Set<String> shown = new TreeSet<>();
        int many = 0;
        while (examples.find()) {
            many++;
            example(examples.group(1), shown);
        }
        if (many == 0 || looked == 0) {
            notSo("it shows no example");
        }
        System.out.println("README.md: " + many + " examples, " + looked + " calls of " + shown.size() + " kinds, " + wrong + " not so");
        if (wrong != 0) {
            System.exit(1);
        }
    }
}
