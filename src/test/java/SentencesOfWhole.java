import java.io.IOException;
import java.lang.reflect.Field;
import java.lang.reflect.Method;
import java.lang.reflect.Modifier;
import java.nio.charset.StandardCharsets;
import java.nio.file.Files;
import java.nio.file.Path;
import java.util.StringJoiner;

/**
 * What DOC.md says outside of its terms and promises: "What it is" clause by clause, each by a run of
 * calls in which it can be seen, the public face line by line, what the interface says ahead of its
 * calls, and what is not promised.
 */
final class SentencesOfWhole extends Sentences {
    private static final String OWING = "person 3, person 9, person 5, mend 0 3 0, debt 1 312, debt 12 212, debt 20 212";

    static void all() {
        daysOwed();
        whoHasWhom();
        thought();
        books();
        ways();
        calls();
        constants();
        faceOfPeople();
        faceOfDays();
        faceOfBooks();
        ahead();
        notPromised();
    }

    private static void daysOwed() {
        sentence(WHAT_IT_IS, "Owed in days: people who owe one another days of work,");
        on(OWING);
        same("of 1 30", 3);
        same("of 0 11", 3);
        same("of 0 12", 2);

        sentence(WHAT_IT_IS, "days of unlike length through the year, a day of June two of December;");
        on(TWO + ", mend 0 3 0, mend 5 0 8, mend 11 0 4, debt 1 105, debt 10 105, debt 1 111, ask 0 44, ask 1 44, ask 0 45, go 1 45");
        same("of 0 2", 1);
        same("of 0 4", 1);
        also("go 1 1");
        same("of 0 2", 0);
        same("of 1 2", 1);
        on(TWO + ", mend 0 3 0, mend 5 0 8, mend 11 0 4, debt 1 111, ask 0 20, go 1 21");
        same("of 0 2", 0);

        sentence(WHAT_IT_IS, "what each day's work is worth to whom by a law told as a text;");
        on(OWING);
        same("worth 1 4", 15);
        also("text (q=2)*40+d+s");
        same("worth 1 4", 7);
        same("worth 2 4", 47);
        same("worth 12 5", 54);

        sentence(WHAT_IT_IS, "debts handed on, paid with other people's, struck out in rings;");
        on(OWING);
        due("strike", 2);
        same("count 2", 1);
        on("person 3, person 9, person 5, debt 1 312, debt 12 312");
        due("hand 1", 1);
        same("of 0 1", 2);
        same("of 1 2", 0);
    }

    private static void whoHasWhom() {
        sentence(WHAT_IT_IS, "who asks whom for which day with notice, who has him if several ask, who is ill by draws;");
        on(OWING + ", debt 2 912");
        refused("ask 0 2", BAD);
        due("ask 0 4", 0);
        due("ask 3 4", 1);
        same("has 0 4", 1);
        also("mend 0 2 1");
        same("has 0 4", 2);
        also("mend 0 3 12");
        due("go 1 5", 0);
        on(OWING + ", ask 0 4");
        due("go 1 5", 1);
    }

    private static void thought() {
        sentence(WHAT_IT_IS, "when to ask so that most is worked, whom to ask for, how few can wipe all;");
        on(OWING + ", mend 3 0 9, text l*s+q");
        same("plan 1 12", 28 + 16 + 16);
        same("plan 1 14", 3 * 28);
        same("bestDay 0 0", 12);
        same("bestDay 0 1", 28);
        same("wiped", 1);

        sentence(WHAT_IT_IS, "what a debt is worth at its best day, how many days one may sell ahead and still be free;");
        on(OWING + ", text 60-(d-9)*(d-9)");
        same("bestDay 0 0", 9);
        same("bestDay 0 1", 60);
        same("free 0 10", 6 - 3);
        same("free 0 5", -1);
    }

    private static void books() {
        sentence(WHAT_IT_IS, "who owes whom by a book with a wet page; runaways, heirs;");
        on(OWING + ", debt 1 411, fill 0 1 0 1 2 0 1 -1 1 2 2 2 0 3");
        same("judge 0", 0);
        also("put 0 2 7, put 0 5 -1");
        same("judge 0", 3);
        same("wet 0 1", 0);
        also("put 0 2 5");
        same("wet 0 1", 2);
        due("runaway 0", 7);
        due("heir 20", 1);
        same("of 1 0", 1);
        same("of 1 1", 0);

        sentence(WHAT_IT_IS, "days, lengths mended, undone; an image; debts from rows that lack or end;");
        on(TWO);
        due("mend 4 0 9", 5);
        due("mend 0 1 4", 3);
        due("image", 0);
        also("debt 1 112, go 1 3");
        due("back", 0);
        same("count 1", 0);
        due("undo", 1);
        due("undo", 0);
        same("of 4 20", 5);
        same("of 0 10", 3);
        due("debts 0 0 2", 0);
        also("fill 0 0 0 1 2 12 1 0 3");
        due("debts 0 0 2", 1);
    }

    private static void ways() {
        sentence(WHAT_IT_IS, "days whose acts come from above; and each nick and day led.");
        on(OWING + ", body 3, mend 0 0 9, debt 1 100, ask 3 4, go 1 5");
        due("act 0 0 6", 6);
        same("trace 0", 1);
        same("of 3 4", 1);
        same("led 40 0", 1);
        same("led 40 1", 3);
    }

    private static void calls() {
        sentence(WHAT_IT_IS, "An object is used for at most 512 calls after it has been made; what later calls answer is free.");
        on("8* person 9, 500* feed 48");
        due("feed 48", FULL);
        due("law", -104);
        due("debt 1 112", 0);
        due("of 0 2", 1);
    }

    // ---- the public face: each line is compared with the class itself

    private static void constants() {
        sentence(FACE, "public final class OwedDays {");
        is("public and final", OwedDays.class.getModifiers(), Modifier.PUBLIC | Modifier.FINAL);
        sentence(FACE, "public static final int BAD = -1, NOT = -2, FULL = -3, STATE = -5, VOID = -2000000000;");
        is("BAD", OwedDays.BAD, -1);
        is("NOT", OwedDays.NOT, -2);
        is("FULL", OwedDays.FULL, -3);
        is("STATE", OwedDays.STATE, -5);
        is("VOID", OwedDays.VOID, -2000000000);
        int constants = 0;
        for (Field field : OwedDays.class.getDeclaredFields()) {
            if (!Modifier.isPrivate(field.getModifiers())) {
                constants++;
                is(field.getName(), field.getModifiers(), Modifier.PUBLIC | Modifier.STATIC | Modifier.FINAL);
            }
        }
        is("how many constants", constants, 5);
        sentence(FACE, "public OwedDays();");
        is("constructors", OwedDays.class.getDeclaredConstructors().length, 1);
        is("constructors that are public and take nothing", constructorsThatTakeNothing(), 1);
    }

    private static int constructorsThatTakeNothing() {
        return OwedDays.class.getConstructors().length == 1 && OwedDays.class.getConstructors()[0].getParameterCount() == 0 ? 1 : 0;
    }

    private static void line(String words) {
        sentence(FACE, words);
        String head = words.substring(0, words.indexOf('('));
        StringJoiner due = new StringJoiner(" ");
        due.add(head);
        String told = words.substring(words.indexOf('(') + 1, words.indexOf(')'));
        for (String parameter : told.isEmpty() ? new String[0] : told.split(", ")) {
            due.add(parameter.split(" ")[0]);
        }
        int met = 0;
        for (Method method : OwedDays.class.getDeclaredMethods()) {
            StringJoiner is = new StringJoiner(" ");
            is.add(Modifier.toString(method.getModifiers())).add(method.getReturnType().getName()).add(method.getName());
            for (Class<?> type : method.getParameterTypes()) {
                is.add(type.getName());
            }
            met += is.toString().equals(due.toString()) ? 1 : 0;
        }
        is("the method " + due, met, 1);
    }

    private static void faceOfPeople() {
        line("public int person(int skill);");
        line("public int debt(int pq, int dk);");
        line("public int debts(int shelf, int i, int n);");
        line("public int mend(int number, int what, int v);");
        line("public int of(int number, int what);");
        line("public int feed(int letter);");
        line("public int law();");
        line("public int worth(int pq, int day);");
    }

    private static void faceOfDays() {
        line("public int ask(int debt, int day);");
        line("public int has(int person, int day);");
        line("public int go(int seed, int n);");
        line("public int led(int dp, int what);");
        line("public int waits();");
        line("public int bestDay(int debt, int what);");
        line("public int plan(int person, int t);");
        line("public int free(int person, int t);");
        line("public int ring();");
        line("public int wiped();");
        line("public int balance(int person);");
        line("public int hand(int ab);");
        line("public int strike();");
        line("public int runaway(int person);");
        line("public int heir(int pq);");
    }

    private static void faceOfBooks() {
        line("public int judge(int shelf);");
        line("public int wet(int shelf, int pq);");
        line("public int image();");
        line("public int back();");
        line("public int undo();");
        line("public int redo();");
        line("public int body(int kind);");
        line("public int act(int body, int act, int x);");
        line("public int trace(int i);");
        line("public int keep(int shelf, int body);");
        line("public int row(int shelf, int sort, int n);");
        line("public int put(int shelf, int i, long v);");
        line("public long element(int shelf, int i);");
        line("public int shift(int shelf, int i, int other, int j, int n);");
        line("public int taken(int shelf, int k);");
        line("public int count(int what);");
        sentence(FACE, "}");
        int open = 0;
        for (Method method : OwedDays.class.getDeclaredMethods()) {
            open += Modifier.isPrivate(method.getModifiers()) ? 0 : 1;
        }
        is("how many methods others can see", open, 39);
    }

    // ---- what the interface says ahead of its calls

    // The calls stand in the class behind the heading that the interface has, in the same order.
    private static void heading(String quote) {
        sentence(AHEAD, quote);
        String source = source();
        String heading = quote.substring(quote.indexOf("---- "), quote.length() - 1);
        int at = source.indexOf("    // " + heading + "\n");
        is("where " + heading + " stands is told", at >= 0 ? 1 : 0, 1);
        int next = source.indexOf("    // ----", at + 8);
        for (String call : quote.substring("Ahead of the calls ".length(), quote.indexOf(" the interface")).replace("`", "").split(", ")) {
            int behind = source.indexOf(" " + call + "(", at);
            while (behind >= 0 && !source.substring(source.lastIndexOf('\n', behind), behind).matches("\\s+public (int|long)")) {
                behind = source.indexOf(" " + call + "(", behind + 1);
            }
            is(call + " stands behind what is ahead of it", behind > at ? 1 : 0, 1);
            is(call + " stands ahead of the next heading", next < 0 || behind < next ? 1 : 0, 1);
            at = behind;
        }
    }

    private static String source() {
        try {
            return Files.readString(Path.of(System.getProperty("owed.source", "src/main/java/OwedDays.java")), StandardCharsets.UTF_8);
        } catch (IOException e) {
            throw new IllegalStateException(e);
        }
    }

    private static void ahead() {
        heading("Ahead of the calls `person`, `debt`, `debts`, `mend`, `of`, `feed`, `law`, `worth` the interface says:"
            + " ---- people, debts (pq: 10 times the one and the other).");
        heading("Ahead of the calls `ask`, `has`, `go`, `led`, `waits` the interface says: ---- asking, days.");
        heading("Ahead of the calls `bestDay`, `plan`, `free`, `ring`, `wiped`, `balance` the interface says: ---- in thought.");
        heading("Ahead of the calls `hand`, `strike`, `runaway`, `heir` the interface says: ---- in deed.");
        heading("Ahead of the calls `judge`, `wet`, `image`, `back`, `undo`, `redo` the interface says: ---- books.");
        heading("Ahead of the calls `body`, `act`, `trace`, `keep`, `row`, `put`, `element`, `shift`, `taken`, `count` the interface says:"
            + " ---- acts, shelves.");
    }

    private static void notPromised() {
        sentence(NOT_PROMISED, "How the state is held inside the object is free, as are the speed of each call, the text of toString and"
            + " the behaviour of equals and hashCode. Use of one object from several threads at once is not promised to be safe.");
        for (Method method : OwedDays.class.getDeclaredMethods()) {
            boolean isFree = method.getName().matches("toString|equals|hashCode") || Modifier.isSynchronized(method.getModifiers());
            is(method.getName() + " is what the document is silent of", isFree ? 1 : 0, 0);
        }
        sentence(NOT_PROMISED, "Nothing is promised beyond the answers and state changes described above, and nothing about an object"
            + " after its 512th call.");
        on("8* person 9, 501* count 0, debt 1 112, debt 12 112");
        due("hand 1", 1);
    }
}
