import java.io.ByteArrayOutputStream;
import java.io.IOException;
import java.io.OutputStream;
import java.io.PrintStream;
import java.io.StringWriter;
import java.lang.reflect.Field;
import java.lang.reflect.Method;
import java.net.URI;
import java.nio.file.Files;
import java.nio.file.Path;
import java.util.ArrayList;
import java.util.HashMap;
import java.util.List;
import java.util.Map;
import java.util.TreeMap;
import java.util.concurrent.ExecutorService;
import java.util.concurrent.Executors;
import java.util.concurrent.Future;
import java.util.regex.Matcher;
import java.util.regex.Pattern;
import javax.tools.FileObject;
import javax.tools.ForwardingJavaFileManager;
import javax.tools.JavaCompiler;
import javax.tools.JavaFileManager;
import javax.tools.JavaFileObject;
import javax.tools.SimpleJavaFileObject;
import javax.tools.ToolProvider;

/**
 * Asks whether the tests by sentences would fail if a sentence did not hold: OwedDays.java is changed
 * in one place at a time (a number by 1, an operator, a condition, a statement left out) and the tests
 * are run on it. Told: each change that no test notices. Not run by .ci/run, as it takes some minutes.
 */
public final class Mutants {
    private static final String[] GROUPS = {"SentencesOfWhole", "SentencesOfPeople", "SentencesOfLaw", "SentencesOfDays",
        "SentencesOfThought", "SentencesOfDeeds", "SentencesOfBooks", "SentencesOfActs", "SentencesOfShelves"};
    private static final Pattern TOKEN = Pattern.compile("'.'|(?<![\\w.])\\d+(?![\\w.])|<=|>=|==|!=|&&|\\|\\||\\+\\+|--|\\+=|-=|>>>|>>|<<"
        + "|[<>+\\-*/%!^|&]|\\b(true|false|MOST_\\w+|DAYS|MONTHS|NOTICE|ANY_KIND|SHELVES|KINDS|ACTS)\\b"
        + "|\\b(BAD|NOT|FULL|STATE|VOID|NOTHING_THERE|OTHER_KIND|NO_PLACE|SIZE_BELOW_0)\\b");
    private static final Pattern CONDITION = Pattern.compile("\\bif \\((.*)\\) \\{$");
    private static final Pattern NO_STATEMENT = Pattern.compile("(return|private|final|int|boolean|case|default|public)\\b.*");
    private static final Map<String, String> OTHERS = Map.ofEntries(Map.entry("<", "<= >"), Map.entry("<=", "< >="), Map.entry(">", ">= <"),
        Map.entry(">=", "> <="), Map.entry("==", "!="), Map.entry("!=", "=="), Map.entry("&&", "||"), Map.entry("||", "&&"),
        Map.entry("++", "--"), Map.entry("--", "++"), Map.entry("+=", "-= ="), Map.entry("-=", "+= ="), Map.entry(">>>", ">>"),
        Map.entry(">>", "<< >>>"), Map.entry("<<", ">>"), Map.entry("+", "-"), Map.entry("-", "+"), Map.entry("*", "+ /"),
        Map.entry("/", "* %"), Map.entry("%", "/"), Map.entry("^", "| +"), Map.entry("|", "&"), Map.entry("&", "|"),
        Map.entry("true", "false"), Map.entry("false", "true"), Map.entry("BAD", "NOT"));

    private record Mutant(String told, String source) {
    }

    private static final class Source extends SimpleJavaFileObject {
        private final String code;

        Source(String code) {
            super(URI.create("string:///OwedDays.java"), Kind.SOURCE);
            this.code = code;
        }

        @Override
        public CharSequence getCharContent(boolean ignoreEncodingErrors) {
            return code;
        }
    }

    private static final class Compiled extends SimpleJavaFileObject {
        private final ByteArrayOutputStream bytes = new ByteArrayOutputStream();

        Compiled(String name) {
            super(URI.create("mem:///" + name + ".class"), Kind.CLASS);
        }

        @Override
        public OutputStream openOutputStream() {
            return bytes;
        }
    }

    /** The mutant's classes, and the tests' own anew, as they keep what they have met in static fields. */
    private static final class Loader extends ClassLoader {
        private final Map<String, Compiled> mutant;
        private final Path tests;

        Loader(Map<String, Compiled> mutant, Path tests) {
            super(Mutants.class.getClassLoader());
            this.mutant = mutant;
            this.tests = tests;
        }

        @Override
        protected Class<?> loadClass(String name, boolean resolve) throws ClassNotFoundException {
            Class<?> known = findLoadedClass(name);
            if (known != null) {
                return known;
            }
            if (!mutant.containsKey(name) && !name.startsWith("Sentences")) {
                return super.loadClass(name, resolve);
            }
            try {
                byte[] bytes = mutant.containsKey(name) ? mutant.get(name).bytes.toByteArray() : Files.readAllBytes(tests.resolve(name + ".class"));
                return defineClass(name, bytes, 0, bytes.length);
            } catch (IOException e) {
                throw new ClassNotFoundException(name, e);
            }
        }
    }

    private static Map<String, Compiled> compile(String code) {
        JavaCompiler compiler = ToolProvider.getSystemJavaCompiler();
        Map<String, Compiled> classes = new HashMap<>();
        JavaFileManager files = new ForwardingJavaFileManager<JavaFileManager>(compiler.getStandardFileManager(d -> { }, null, null)) {
            @Override
            public JavaFileObject getJavaFileForOutput(Location location, String name, JavaFileObject.Kind kind, FileObject sibling) {
                classes.put(name, new Compiled(name));
                return classes.get(name);
            }
        };
        boolean compiles = compiler.getTask(new StringWriter(), files, d -> { }, List.of("-proc:none"), null, List.of(new Source(code))).call();
        return compiles ? classes : Map.of();
    }

    private static String tested(Loader loader) {
        try {
            Field wrong = Class.forName("Sentences", true, loader).getDeclaredField("wrong");
            wrong.setAccessible(true);
            for (String group : GROUPS) {
                Method all = Class.forName(group, true, loader).getDeclaredMethod("all");
                all.setAccessible(true);
                all.invoke(null);
                if (wrong.getInt(null) != 0) {
                    return "noticed";
                }
            }
            return "NOT NOTICED";
        } catch (ReflectiveOperationException | LinkageError e) {
            return "noticed";
        }
    }

    @SuppressWarnings("deprecation")
    private static String answer(Mutant mutant, Path tests) throws InterruptedException {
        Map<String, Compiled> classes = compile(mutant.source());
        if (classes.isEmpty()) {
            return "does not compile";
        }
        String[] answer = {"does not end"};
        Thread run = new Thread(() -> answer[0] = tested(new Loader(classes, tests)));
        run.start();
        run.join(60000);
        run.stop();
        return answer[0];
    }

    private static List<String> othersFor(String token) {
        if (token.matches("\\d+")) {
            int number = Integer.parseInt(token);
            return number == 0 ? List.of("1") : List.of("" + (number + 1), "" + (number - 1));
        }
        if (token.startsWith("'")) {
            return List.of("'`'");
        }
        if (token.equals("!")) {
            return List.of("");
        }
        if (OTHERS.containsKey(token)) {
            return List.of(OTHERS.get(token).split(" "));
        }
        boolean isAnswer = token.matches("NOT|FULL|STATE|VOID|NOTHING_THERE|OTHER_KIND|NO_PLACE|SIZE_BELOW_0");
        return isAnswer ? List.of("BAD") : List.of("(" + token + " + 1)", "(" + token + " - 1)");
    }

    private static List<String> othersOf(String line) {
        List<String> others = new ArrayList<>();
        Matcher token = TOKEN.matcher(line);
        while (token.find()) {
            for (String other : othersFor(token.group())) {
                others.add(line.substring(0, token.start()) + other + line.substring(token.end()));
            }
        }
        Matcher condition = CONDITION.matcher(line);
        if (condition.find()) {
            for (String always : new String[] {"true || (", "false && ("}) {
                others.add(line.substring(0, condition.start(1)) + always + condition.group(1) + ")" + line.substring(condition.end(1)));
            }
        }
        if (line.endsWith(";") && !NO_STATEMENT.matcher(line.trim()).matches()) {
            others.add(";");
        }
        return others;
    }

    private static List<Mutant> mutantsOf(String source) {
        List<Mutant> mutants = new ArrayList<>();
        String[] lines = source.split("\n", -1);
        for (int at = 0; at < lines.length; at++) {
            String line = lines[at];
            if (line.trim().matches("(//|\\*|/\\*).*")) {
                continue;
            }
            for (String other : othersOf(line)) {
                lines[at] = other;
                mutants.add(new Mutant((at + 1) + ": " + line.trim() + "  =>  " + other.trim(), String.join("\n", lines)));
            }
            lines[at] = line;
        }
        return mutants;
    }

    /** Told: OwedDays.java, and the folder with the compiled tests. */
    public static void main(String[] args) throws Exception {
        List<Mutant> mutants = mutantsOf(Files.readString(Path.of(args[0])));
        PrintStream out = System.out;
        System.setOut(new PrintStream(OutputStream.nullOutputStream()));
        ExecutorService workers = Executors.newFixedThreadPool(Runtime.getRuntime().availableProcessors());
        List<Future<String>> answers = new ArrayList<>();
        for (Mutant mutant : mutants) {
            answers.add(workers.submit(() -> answer(mutant, Path.of(args[1]))));
        }
        Map<String, Integer> sums = new TreeMap<>();
        for (int i = 0; i < answers.size(); i++) {
            String answer = answers.get(i).get();
            sums.merge(answer, 1, Integer::sum);
            if (answer.equals("NOT NOTICED")) {
                out.println(mutants.get(i).told());
            }
        }
        out.println(mutants.size() + " changes: " + sums);
        System.exit(0);
    }
}
