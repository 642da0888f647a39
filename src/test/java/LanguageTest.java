import java.lang.reflect.Field;
import java.lang.reflect.Method;
import java.lang.reflect.Modifier;
import java.nio.charset.StandardCharsets;
import java.nio.file.Files;
import java.nio.file.Path;
import java.util.ArrayList;
import java.util.Arrays;
import java.util.List;
import java.util.Set;
import java.util.TreeSet;
import java.util.regex.Matcher;
import java.util.regex.Pattern;

/** What can be seen from outside of the rules of LANGUAGE.md: the face, the words and the sizes of the one file. */
public final class LanguageTest {
    private static final String FACE = "act(int,int,int):int ask(int,int):int back():int balance(int):int bestDay(int,int):int"
        + " body(int):int count(int):int debt(int,int):int debts(int,int,int):int element(int,int):long feed(int):int free(int,int):int"
        + " go(int,int):int hand(int):int has(int,int):int heir(int):int image():int judge(int):int keep(int,int):int law():int"
        + " led(int,int):int mend(int,int,int):int of(int,int):int person(int):int plan(int,int):int put(int,int,long):int redo():int"
        + " ring():int row(int,int,int):int runaway(int):int shift(int,int,int,int,int):int strike():int taken(int,int):int"
        + " trace(int):int undo():int waits():int wet(int,int):int wiped():int worth(int,int):int";
    private static int checks = 0;
    private static int wrong = 0;

    private static void so(String what, boolean is) {
        checks++;
        if (!is) {
            wrong++;
            System.out.println("not so: " + what);
        }
    }

    private static void face() {
        Set<String> met = new TreeSet<>();
        Set<String> names = new TreeSet<>();
        for (Method method : OwedDays.class.getDeclaredMethods()) {
            if (Modifier.isPrivate(method.getModifiers())) {
                continue;
            }
            List<String> parameters = new ArrayList<>();
            for (Class<?> type : method.getParameterTypes()) {
                parameters.add(type.getName());
            }
            met.add(method.getName() + "(" + String.join(",", parameters) + "):" + method.getReturnType().getName());
            names.add(method.getName());
            so(method.getName() + " is public and no more", method.getModifiers() == Modifier.PUBLIC);
        }
        so("the face is the document's: " + met, met.equals(new TreeSet<>(Arrays.asList(FACE.split(" ")))));
        so("one constructor, public", OwedDays.class.getDeclaredConstructors().length == 1 && OwedDays.class.getConstructors().length == 1);
        so("public and final", OwedDays.class.getModifiers() == (Modifier.PUBLIC | Modifier.FINAL));
        Set<String> constants = new TreeSet<>();
        for (Field field : OwedDays.class.getDeclaredFields()) {
            if (!Modifier.isPrivate(field.getModifiers())) {
                constants.add(field.getName());
                so(field.getName() + " is a constant", field.getModifiers() == (Modifier.PUBLIC | Modifier.STATIC | Modifier.FINAL));
            }
        }
        so("the constants " + constants, constants.equals(new TreeSet<>(List.of("BAD", "NOT", "FULL", "STATE", "VOID"))));
        List<Class<?>> all = new ArrayList<>(List.of(OwedDays.class.getDeclaredClasses()));
        all.add(OwedDays.class);
        so("some twelve classes", all.size() <= 12);
        for (Class<?> one : all) {
            inside(one, names);
        }
    }

    private static void inside(Class<?> one, Set<String> names) {
        so(one + " is static", one == OwedDays.class || Modifier.isStatic(one.getModifiers()));
        so(one + " is not public", one == OwedDays.class || !Modifier.isPublic(one.getModifiers()));
        int fields = 0;
        for (Field field : one.getDeclaredFields()) {
            boolean isStatic = Modifier.isStatic(field.getModifiers());
            so(field + ": static and not final", !isStatic || Modifier.isFinal(field.getModifiers()));
            fields += isStatic ? 0 : 1;
        }
        so(one + " has some twenty fields", fields <= 20);
        for (Method method : one.getDeclaredMethods()) {
            boolean isFace = one == OwedDays.class && Modifier.isPublic(method.getModifiers());
            so(method + " bears the name of a public one", isFace || !names.contains(method.getName()));
            so(method + " takes at most seven", method.getParameterCount() <= 7);
        }
    }

    private static void words(String source) {
        String code = source.replaceAll("(?s)/\\*.*?\\*/", " ").replaceAll("//[^\n]*", " ");
        for (String word : List.of("throw", "throws", "try", "catch", "synchronized", "assert", "import", "package", "var", "finally",
            "native", "volatile", "System.out", "Math.random", "Exact", "hashCode", "toString", "equals", "String.format", "instanceof",
            "Object", "Integer.valueOf", "record", "yield")) {
            so("no " + word, !Pattern.compile("(?<![\\w.])" + Pattern.quote(word) + "(?!\\w)").matcher(code).find());
        }
        so("no lambda", !code.contains("->"));
        so("no method reference", !code.contains("::"));
        so("no static block", !Pattern.compile("static\\s*\\{").matcher(code).find());
        so("signs 1 to 127 alone", source.chars().allMatch(c -> c >= 1 && c <= 127));
        Matcher call = Pattern.compile("\\b([A-Z][a-z]\\w*)\\.(\\w+)\\(").matcher(code);
        Set<String> library = Set.of("Math.min", "Math.max", "System.arraycopy", "Diary.place", "Rings.least", "Bodies.isUnder");
        while (call.find()) {
            so("library: " + call.group(), library.contains(call.group(1) + "." + call.group(2)));
        }
        Matcher made = Pattern.compile("\\bnew (\\w+)").matcher(code);
        Set<String> own = Set.of("int", "boolean", "long", "Settings", "Changes", "Law", "Ledger", "Diary", "Wiper", "Bodies", "Shelf");
        while (made.find()) {
            so("made: " + made.group(), own.contains(made.group(1)));
        }
    }

    // What a call makes is never given back: all rows are made with the object, in fields and its constructor.
    private static void makesNothingLater(String source) {
        for (String line : source.split("\n")) {
            boolean isField = line.matches("\\s+(private )?final [\\w\\[\\]]+ \\w+ = new .*");
            boolean isConstructors = line.equals("            shelves[shelf] = new Shelf();");
            boolean isComment = line.trim().startsWith("//") || line.trim().matches("/?\\*.*");
            so("nothing is made by a call: " + line.trim(), isField || isConstructors || isComment || !line.contains("new "));
        }
    }

    private static void isShort(String source) {
        String head = "";
        String end = "";
        int since = 0;
        int methods = 0;
        for (String line : source.split("\n")) {
            since++;
            if (line.matches("( {4}| {8})\\w.*\\) \\{") && !line.trim().matches("(if|for|while|switch) .*")) {
                head = line.trim();
                end = line.substring(0, line.indexOf(head)) + "}";
                since = 1;
                methods++;
            }
            if (line.equals(end)) {
                so(head + " is short: " + since, since <= 45);
                end = "";
            }
        }
        so("methods are seen: " + methods, methods > 100);
    }

    public static void main(String[] args) throws Exception {
        String source = Files.readString(Path.of(System.getProperty("owed.source", "src/main/java/OwedDays.java")), StandardCharsets.UTF_8);
        face();
        words(source);
        makesNothingLater(source);
        isShort(source);
        System.out.println("LANGUAGE.md: " + checks + " things looked at, " + wrong + " not so");
        if (wrong != 0) {
            System.exit(1);
        }
    }
}
