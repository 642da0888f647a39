import java.lang.reflect.Method;
import java.util.ArrayList;
import java.util.Arrays;
import java.util.HashMap;
import java.util.List;
import java.util.Map;

/**
 * What the tests by sentences share: a sentence of DOC.md is told by its own words, then calls are
 * made, told as a text ("debt 1 112, ask 0 4"), and their answers are looked at. A call that must
 * change nothing is made on one of two objects with the same calls behind them; then both are asked
 * for all that can be asked.
 */
abstract class Sentences {
    static final String TWO = "person 3, person 9";
    static final int TERMS = 0, WHAT_IT_IS = -1, FACE = -2, AHEAD = -3, NOT_PROMISED = -4;
    static final int BAD = -1, NOT = -2, FULL = -3, STATE = -5, VOID = -2000000000;
    static final int NOTHING = -11, OTHER = -12, NOWHERE = -13, BELOW = -14;
    static final long REFUSED = Long.MIN_VALUE;

    static final List<Integer> promises = new ArrayList<>();
    static final List<String> quotes = new ArrayList<>();
    static final List<Integer> looked = new ArrayList<>();
    static int wrong = 0;

    private static final int MOST_CALLS = 512;
    private static final Map<String, Method> METHODS = face();
    private static final List<Call[]> LOOKS = looks();

    private static List<Call> made = new ArrayList<>();
    private static OwedDays x = new OwedDays();
    private static int asked = 0;
    private static List<long[]> asItIs = null;

    /** A call: its method, what it is told, and its words. */
    private record Call(Method method, Object[] told, String words) {
        long on(OwedDays object) {
            try {
                return ((Number) method.invoke(object, told)).longValue();
            } catch (ReflectiveOperationException e) {
                throw new IllegalStateException(words, e);
            }
        }
    }

    private static Map<String, Method> face() {
        Map<String, Method> face = new HashMap<>();
        for (Method method : OwedDays.class.getMethods()) {
            if (method.getDeclaringClass() == OwedDays.class) {
                face.put(method.getName(), method);
            }
        }
        return face;
    }

    private static long numberOf(String word) {
        switch (word) {
            case "MAX": return Integer.MAX_VALUE;
            case "MIN": return Integer.MIN_VALUE;
            case "LONGMAX": return Long.MAX_VALUE;
            case "LONGMIN": return Long.MIN_VALUE;
            default: return Long.parseLong(word);
        }
    }

    private static Call call(String words) {
        String[] parts = words.trim().split(" ");
        Method method = METHODS.get(parts[0]);
        Class<?>[] types = method.getParameterTypes();
        if (types.length != parts.length - 1) {
            throw new IllegalStateException(words);
        }
        Object[] told = new Object[types.length];
        for (int i = 0; i < told.length; i++) {
            long number = numberOf(parts[i + 1]);
            told[i] = types[i] == long.class ? (Object) number : (Object) Math.toIntExact(number);
        }
        return new Call(method, told, words.trim());
    }

    // "bytes d*s" feeds them, "text d*s" makes them the law, "fill 0 1 5 6 7" is a ROW of shorts with its elements.
    private static void read(String words, List<Call> calls) {
        String[] parts = words.split(" ");
        if (parts[0].equals("bytes") || parts[0].equals("text")) {
            for (char letter : (parts.length > 1 ? parts[1] : "").toCharArray()) {
                calls.add(call("feed " + (int) letter));
            }
            if (parts[0].equals("text")) {
                calls.add(call("law"));
            }
        } else if (parts[0].equals("fill")) {
            calls.add(call("row " + parts[1] + " " + parts[2] + " " + (parts.length - 3)));
            for (int i = 3; i < parts.length; i++) {
                calls.add(call("put " + parts[1] + " " + (i - 3) + " " + parts[i]));
            }
        } else {
            calls.add(call(words));
        }
    }

    // Calls parted by commas; "20* debt 1 112" is a call made 20 times.
    private static List<Call> callsOf(String words) {
        List<Call> calls = new ArrayList<>();
        for (String one : words.split(",")) {
            String each = one.trim();
            int times = 1;
            if (each.matches("\\d+\\* .*")) {
                times = Integer.parseInt(each.substring(0, each.indexOf('*')));
                each = each.substring(each.indexOf('*') + 2);
            }
            for (int time = 0; time < times && !each.isEmpty(); time++) {
                read(each, calls);
            }
        }
        return calls;
    }

    /** The words of a sentence: all that is looked at from here on is looked at for it. */
    static void sentence(int promise, String words) {
        promises.add(promise);
        quotes.add(words);
        looked.add(0);
        on("");
    }

    private static void look(String what, long got, long want) {
        int last = looked.size() - 1;
        looked.set(last, looked.get(last) + 1);
        if (got != want) {
            wrong++;
            System.out.println("not so: " + Sentences.place(promises.get(last)) + ", \"" + quotes.get(last) + "\"");
            System.out.println("    behind " + madeInWords() + ": " + what + " answered " + got + ", due is " + want);
        }
    }

    static String place(int promise) {
        switch (promise) {
            case WHAT_IT_IS: return "What it is";
            case FACE: return "The public face";
            case TERMS: return "Terms";
            case AHEAD: return "Terms, at their end";
            case NOT_PROMISED: return "Not promised";
            default: return "Promise " + promise;
        }
    }

    /** What is looked at beside the answers of calls. */
    static void is(String what, long is, long due) {
        look(what, is, due);
    }

    private static String madeInWords() {
        StringBuilder words = new StringBuilder("a new object");
        for (Call call : made) {
            words.append(", ").append(call.words());
        }
        return words.toString();
    }

    /** A new object, and these calls made on it. */
    static void on(String words) {
        made = new ArrayList<>();
        x = new OwedDays();
        asked = 0;
        asItIs = null;
        also(words);
    }

    /** More calls on the object, whatever they answer. */
    static void also(String words) {
        for (Call call : callsOf(words)) {
            made.add(call);
            call.on(x);
            asItIs = null;
        }
        if (made.size() > MOST_CALLS) {
            throw new IllegalStateException("more than an object is used for: " + made.size());
        }
    }

    /** A call on the object and the answer that is due. */
    static void due(String words, long want) {
        List<Call> calls = callsOf(words);
        Call last = calls.get(calls.size() - 1);
        for (Call call : calls) {
            long got = call.on(x);
            if (call == last) {
                look(words, got, want);
            }
            made.add(call);
        }
        asItIs = null;
    }

    /** A call, the answer that is due, and nothing that can be asked has changed by it. */
    static void same(String words, long want) {
        Call call = call(words);
        asked++;
        if (made.size() + asked > MOST_CALLS) {
            x = copy();
            asked = 1;
        }
        look(words, call.on(x), want);
        if (asItIs == null) {
            asItIs = allThatCanBeAsked(null);
        }
        compare(words + " and then ", allThatCanBeAsked(call), asItIs);
    }

    /** All that can be asked of the object is answered as by a new one with these calls behind it. */
    static void isLike(String words) {
        List<long[]> is = allThatCanBeAsked(null);
        List<Call> kept = made;
        made = callsOf(words);
        List<long[]> like = allThatCanBeAsked(null);
        made = kept;
        look("all that can be asked", 0, 0);
        compare("", is, like);
    }

    private static void compare(String ahead, List<long[]> is, List<long[]> due) {
        for (int i = 0; i < LOOKS.size(); i++) {
            int at = Arrays.mismatch(is.get(i), due.get(i));
            if (at >= 0) {
                look(ahead + LOOKS.get(i)[at].words(), is.get(i)[at], due.get(i)[at]);
                return;
            }
        }
    }

    /** A call that is refused: it must be answered so, and change nothing. */
    static void refused(String words, long want) {
        same(words, want);
    }

    private static OwedDays copy() {
        OwedDays copy = new OwedDays();
        for (Call call : made) {
            call.on(copy);
        }
        return copy;
    }

    // Each look begins on an object of its own, as some of its calls change things.
    private static List<long[]> allThatCanBeAsked(Call first) {
        List<long[]> all = new ArrayList<>();
        for (Call[] calls : LOOKS) {
            if (made.size() + 1 + calls.length > MOST_CALLS) {
                throw new IllegalStateException("more than an object is used for: " + made.size() + " and " + calls.length);
            }
            OwedDays object = copy();
            if (first != null) {
                first.on(object);
            }
            long[] answers = new long[calls.length];
            for (int i = 0; i < calls.length; i++) {
                answers[i] = calls[i].on(object);
            }
            all.add(answers);
        }
        return all;
    }

    // ---- the looks

    private static List<Call[]> looks() {
        List<String> looks = new ArrayList<>();
        String settings = each("of # 20", 0, 11) + each("of # 10", 0, 7) + "of 0 50, of 0 51,";
        String sums = each("count #", 0, 8) + each("of # 11", 0, 7) + each("of # 12", 0, 7) + each("of # 13", 0, 7) + "waits,";
        String rows = debts() + asks();
        looks.add(settings + sums + each("trace #", 0, 24) + "ring, wiped," + each("balance #", 0, 7) + pairs("of # 30"));
        looks.add(rows);
        looks.add(each("bestDay # 0", 0, 19) + each("bestDay # 1", 0, 19) + each("plan # 47", 0, 7) + each("free # 47", 0, 7)
            + pairs("worth # 22"));
        looks.add(each("worth 1 #", 0, 47) + each("worth 10 #", 0, 47) + each("worth 67 #", 0, 47));
        for (int day = 0; day < 48; day += 12) {
            looks.add(led(day, day + 11) + "count 4");
            looks.add("back," + led(day, day + 11) + "count 4");
        }
        for (int day = 0; day < 48; day += 24) {
            looks.add(has(day, day + 23));
        }
        for (int shelf = 0; shelf < 6; shelf += 3) {
            looks.add(shelf(shelf) + shelf(shelf + 1) + shelf(shelf + 2));
        }
        looks.add("back," + sums + settings);
        looks.add("back," + rows);
        looks.add("41* undo," + settings);
        looks.add("41* redo," + settings);
        looks.add("undo, redo, redo, undo, undo, undo," + settings + "redo," + settings);
        looks.add("law," + each("worth 1 #", 0, 47) + "count 5, feed 50, law, worth 1 5");
        looks.add("feed 59, feed 55, law," + each("worth 1 #", 0, 47));
        looks.add("48* go 77 1," + sums + rows.substring(0, rows.indexOf("of 0 40")));
        looks.add(each("act # 3 5", 0, 49) + each("taken # 0", 0, 5) + "body 0, person 1, debt 1 112, debt 1 112, ask 0 46, count 8");
        looks.add("strike, hand 1, hand 102, heir 1, runaway 0, image," + sums + debts());
        List<Call[]> all = new ArrayList<>();
        for (String look : looks) {
            all.add(callsOf(look).toArray(new Call[0]));
        }
        return all;
    }

    private static String each(String words, int least, int most) {
        StringBuilder all = new StringBuilder();
        for (int number = least; number <= most; number++) {
            all.append(words.replace("#", "" + number)).append(',');
        }
        return all.toString();
    }

    private static String pairs(String words) {
        StringBuilder all = new StringBuilder();
        for (int p = 0; p < 8; p++) {
            all.append(each(words.replace("#", p + "#"), 0, 7));
        }
        return all.toString();
    }

    private static String debts() {
        StringBuilder all = new StringBuilder();
        for (int what = 0; what < 5; what++) {
            all.append(each("of # " + what, 0, 19));
        }
        return all.toString();
    }

    private static String asks() {
        return each("of # 40", 0, 29) + each("of # 41", 0, 29) + each("of # 42", 0, 29);
    }

    private static String led(int first, int last) {
        StringBuilder all = new StringBuilder();
        for (int day = first; day <= last; day++) {
            all.append(each("led " + day + "# 0", 0, 7)).append(each("led " + day + "# 1", 0, 7));
        }
        return all.toString();
    }

    private static String has(int first, int last) {
        StringBuilder all = new StringBuilder();
        for (int day = first; day <= last; day++) {
            all.append(each("has # " + day, 0, 7));
        }
        return all.toString();
    }

    private static String shelf(int shelf) {
        return each("element " + shelf + " #", 0, 60) + each("taken " + shelf + " #", 0, 7) + "judge " + shelf + "," + "wet " + shelf + " 1,"
            + "put " + shelf + " 0 513, element " + shelf + " 0,";
    }
}
