import java.util.ArrayDeque;
import java.util.ArrayList;
import java.util.Arrays;
import java.util.Collections;
import java.util.Deque;
import java.util.List;

/**
 * Long runs of calls, drawn from a fixed row of numbers, are answered by the class and by a second,
 * plainer telling of the document (Model below), which shares no code with it: texts by descent and
 * by trial of every ending, rings by all sets, acts by Java's own classes, shelves by Java's arrays.
 */
public final class ModelTest {
    private static final int RUNS = 1200, CALLS = 512;
    private static long drawn = 20261118;

    private static int draw(int below) {
        drawn = drawn * 6364136223846793005L + 1442695040888963407L;
        return (int) ((drawn >>> 33) % below);
    }

    private static int among(int least, int most) {
        return least + draw(most - least + 1);
    }

    // Mostly a number that is so, now and then one just outside, seldom any int.
    private static int number(int least, int most) {
        int luck = draw(60);
        if (luck == 0) {
            return least - 1;
        }
        if (luck == 1) {
            return most + 1;
        }
        if (luck == 2) {
            int[] far = {Integer.MIN_VALUE, Integer.MAX_VALUE, -1, 100, 1000, (int) (drawn >>> 20)};
            return far[draw(far.length)];
        }
        return among(least, Math.max(least, most));
    }

    private static int pair(Model m) {
        return draw(50) == 0 ? number(0, 100) : 10 * number(0, m.people - 1) + number(0, m.people - 1);
    }

    private static final String[] NAMES = {"person", "debt", "debts", "mend", "of", "feed", "law", "worth", "ask", "has", "go", "led",
        "waits", "bestDay", "plan", "free", "ring", "wiped", "balance", "hand", "strike", "runaway", "heir", "judge", "wet", "image",
        "back", "undo", "redo", "body", "act", "trace", "keep", "row", "put", "element", "shift", "taken", "count"};
    private static final int[][] WEIGHTS = {
        {6, 12, 4, 8, 8, 0, 0, 4, 20, 10, 6, 6, 3, 4, 4, 3, 3, 3, 3, 3, 1, 1, 1, 0, 0, 1, 1, 2, 2, 0, 0, 0, 0, 0, 0, 0, 0, 0, 2},
        {6, 12, 8, 2, 4, 0, 0, 1, 2, 1, 1, 1, 1, 1, 1, 1, 4, 4, 2, 8, 3, 1, 3, 6, 6, 1, 1, 1, 1, 0, 0, 0, 1, 3, 30, 2, 2, 1, 1},
        {2, 2, 1, 2, 1, 10, 6, 6, 1, 1, 1, 1, 0, 3, 3, 0, 0, 0, 0, 0, 0, 0, 0, 0, 0, 1, 1, 1, 1, 0, 0, 0, 0, 0, 0, 0, 0, 0, 1},
        {1, 1, 1, 12, 2, 0, 0, 0, 0, 0, 0, 0, 0, 0, 0, 0, 0, 0, 0, 0, 0, 0, 0, 0, 0, 0, 0, 6, 4, 8, 8, 6, 6, 6, 8, 6, 8, 8, 4}};

    private final OwedDays x = new OwedDays();
    private final Model m = new Model();
    private final StringBuilder told = new StringBuilder();
    private int calls = 0;

    private int pick(int[] weights) {
        int sum = 0;
        for (int w : weights) {
            sum += w;
        }
        int at = draw(sum);
        for (int i = 0; i < weights.length; i++) {
            at -= weights[i];
            if (at < 0) {
                return i;
            }
        }
        return 0;
    }

    private boolean same(String call, long got, long want) {
        calls++;
        told.append(call).append(" -> ").append(got).append('\n');
        if (got != want) {
            System.out.println(told);
            System.out.println("the last call: answered " + got + ", the model says " + want);
            return false;
        }
        return true;
    }

    private boolean call(int which) {
        String name = NAMES[which];
        int a;
        int b;
        int c;
        switch (name) {
            case "person": a = number(1, 9); return same(name + a, x.person(a), m.person(a));
            case "debt": a = pair(m); b = 100 * number(1, 3) + (draw(2) == 0 ? 12 : number(0, 12));
                return same(name + a + " " + b, x.debt(a, b), m.debt(a, b));
            case "debts": a = number(0, 5); b = draw(2) == 0 ? 0 : number(0, 12); c = number(1, 15);
                return callFours(a) && same(name + a + " " + b + " " + c, x.debts(a, b, c), m.debts(a, b, c));
            case "mend": b = number(0, 3); a = b == 0 ? number(0, 11) : b == 1 ? number(0, m.people - 1) : number(0, 0); c = number(0, 9);
                return same(name + a + " " + b + " " + c, x.mend(a, b, c), m.mend(a, b, c));
            case "of": return callOf();
            case "feed": a = draw(20) == 0 ? number(0, 255) : "dmlspq0123456789!-()+*/%<=>&|?;".charAt(draw(31));
                return same(name + a, x.feed(a), m.feed(a));
            case "law": return callLaw();
            case "worth": a = pair(m); b = number(0, 47); return same(name + a + " " + b, x.worth(a, b), m.worth(a, b));
            case "ask": a = number(0, m.debts.size() - 1); b = number(m.now + 2, Math.min(48, m.now + 9));
                return same(name + a + " " + b, x.ask(a, b), m.ask(a, b));
            case "has": a = number(0, m.people - 1); b = number(m.now, Math.min(48, m.now + 9));
                return same(name + a + " " + b, x.has(a, b), m.has(a, b));
            case "go": a = number(0, 1000); b = draw(20) == 0 ? number(1, 48) : number(1, 3);
                return same(name + a + " " + b, x.go(a, b), m.go(a, b));
            case "led": a = 10 * number(0, m.now) + number(0, m.people - 1); b = number(0, 1);
                return same(name + a + " " + b, x.led(a, b), m.led(a, b));
            case "waits": return same(name, x.waits(), m.waits());
            case "bestDay": a = number(0, m.debts.size() - 1); b = number(0, 1);
                return same(name + a + " " + b, x.bestDay(a, b), m.bestDay(a, b));
            case "plan": a = number(0, m.people - 1); b = number(0, 47); return same(name + a + " " + b, x.plan(a, b), m.plan(a, b));
            case "free": a = number(0, m.people - 1); b = number(0, 47); return same(name + a + " " + b, x.free(a, b), m.free(a, b));
            default: return callMore(name);
        }
    }

    private boolean callMore(String name) {
        int a;
        int b;
        switch (name) {
            case "ring": return same(name, x.ring(), m.ring());
            case "wiped": return same(name, x.wiped(), m.wiped());
            case "balance": a = number(0, m.people - 1); return same(name + a, x.balance(a), m.balance(a));
            case "hand": a = 100 * number(0, m.debts.size() - 1) + number(0, m.debts.size() - 1);
                for (int i = 0; i < 400 && m.isHandable(a) != 1; i++) {
                    a = 100 * draw(20) + draw(20);
                }
                return same(name + a, x.hand(a), m.hand(a));
            case "strike": return same(name, x.strike(), m.strike());
            case "runaway": a = number(0, m.people - 1); return same(name + a, x.runaway(a), m.runaway(a));
            case "heir": a = pair(m); return same(name + a, x.heir(a), m.heirOfBoth(a));
            case "judge": a = number(0, 5); return callBook(a) && same(name + a, x.judge(a), m.judge(a));
            case "wet": a = number(0, 5); b = pair(m); return same(name + a + " " + b, x.wet(a, b), m.wet(a, b));
            case "image": return same(name, x.image(), m.image());
            case "back": return same(name, x.back(), m.back());
            case "undo": return same(name, x.undo(), m.undo());
            case "redo": return same(name, x.redo(), m.redo());
            case "body": a = number(0, 7); return same(name + a, x.body(a), m.body(a));
            default: return callShelves(name);
        }
    }

    private boolean callShelves(String name) {
        int a = number(0, 5);
        int b;
        int c;
        switch (name) {
            case "act": a = number(0, m.bodies.size() - 1); b = number(0, 3); c = number(-5, 50);
                return same(name + a + " " + b + " " + c, x.act(a, b, c), m.act(a, b, c));
            case "trace": a = number(0, m.trace.size()); return same(name + a, x.trace(a), m.trace(a));
            case "keep": b = number(-1, m.bodies.size() - 1); return same(name + a + " " + b, x.keep(a, b), m.keep(a, b));
            case "row": b = draw(2) == 0 ? among(0, 1) : number(0, 4); c = draw(3) == 0 ? number(0, 60) : number(0, 9);
                return same(name + a + " " + b + " " + c, x.row(a, b, c), m.row(a, b, c));
            case "put": b = number(0, 9); long v = draw(3) == 0 ? drawn : number(-1, 9);
                return same(name + a + " " + b + " " + v, x.put(a, b, v), m.put(a, b, v));
            case "element": b = number(0, 9); return same(name + a + " " + b, x.element(a, b), m.element(a, b));
            case "shift": b = draw(2) == 0 ? a : number(0, 5); c = number(0, 5); int d = number(0, 5); int n = number(0, 5);
                return same(name + a + " " + c + " " + b + " " + d + " " + n, x.shift(a, c, b, d, n), m.shift(a, c, b, d, n));
            case "taken": b = number(0, 7); return same(name + a + " " + b, x.taken(a, b), m.taken(a, b));
            default: a = number(0, 8); return same(name + a, x.count(a), m.count(a));
        }
    }

    private boolean callOf() {
        int[] whats = {0, 1, 2, 3, 4, 10, 11, 12, 13, 20, 30, 40, 41, 42, 50, 51};
        int what = draw(40) == 0 ? number(0, 60) : whats[draw(whats.length)];
        int number = what < 10 ? number(0, m.debts.size() - 1) : what < 20 ? number(0, m.people - 1) : what == 20 ? number(0, 11)
            : what == 30 ? pair(m) : what < 50 ? number(0, m.asks.size() - 1) : number(0, 0);
        return same("of" + number + " " + what, x.of(number, what), m.of(number, what));
    }

    // A TEXT of the grammar, often broken at one place, is fed at once; a law of no worth tells little.
    private boolean callLaw() {
        StringBuilder text = new StringBuilder();
        lines(text);
        if (text.length() > 118) {
            text.setLength(118);
        }
        if (draw(3) == 0) {
            text.setCharAt(draw(text.length()), "dl0(!-)+<?;~x".charAt(draw(13)));
        }
        if (draw(10) == 0) {
            text.setLength(draw(text.length() + 1));
        }
        for (int i = 0; i < text.length(); i++) {
            if (!same("feed" + text.charAt(i), x.feed(text.charAt(i)), m.feed(text.charAt(i)))) {
                return false;
            }
        }
        return same("law", x.law(), m.law());
    }

    private static void lines(StringBuilder text) {
        int lines = among(1, 3);
        for (int line = 0; line < lines; line++) {
            if (line > 0) {
                text.append(';');
            }
            expression(text, 0);
            if (draw(2) == 0) {
                text.append('?');
                expression(text, 0);
            }
        }
    }

    private static void expression(StringBuilder text, int depth) {
        int operands = among(1, 4);
        for (int k = 0; k < operands; k++) {
            if (k > 0) {
                text.append("+-*/%<=>&|".charAt(draw(10)));
            }
            while (draw(4) == 0) {
                text.append(draw(2) == 0 ? '!' : '-');
            }
            int luck = draw(6);
            if (luck == 0 && depth < 4) {
                text.append('(');
                expression(text, depth + 1);
                text.append(')');
            } else if (luck < 4) {
                text.append("dmlspq".charAt(draw(6)));
            } else {
                text.append(draw(3) == 0 ? draw(10000) : draw(30));
            }
        }
    }

    // A book that is right so far, so that judging goes past its first three.
    private boolean callBook(int shelf) {
        if (draw(2) == 0 || m.people < 2 || shelf < 0 || shelf > 5) {
            return true;
        }
        int n = among(0, 14);
        boolean as = same("row" + shelf + " 1 " + n, x.row(shelf, 1, n), m.row(shelf, 1, n));
        for (int at = 0; as && at < n; at += 3) {
            int p = draw(m.people);
            int q = (p + among(1, m.people - 1)) % m.people;
            int[] three = {p, q, draw(3) == 0 ? -1 : draw(12) == 0 ? draw(9) : m.of(10 * p + q, 30)};
            for (int k = 0; as && k < 3 && at + k < n; k++) {
                as = same("put" + shelf + " " + (at + k) + " " + three[k], x.put(shelf, at + k, three[k]), m.put(shelf, at + k, three[k]));
            }
        }
        return as;
    }

    // Fours that are mostly so, the last now and then without its end.
    private boolean callFours(int shelf) {
        if (draw(3) == 0 || m.people < 2 || shelf < 0 || shelf > 5) {
            return true;
        }
        int n = among(0, 20);
        boolean as = same("row" + shelf + " 0 " + n, x.row(shelf, 0, n), m.row(shelf, 0, n));
        for (int at = 0; as && at < n; at += 4) {
            int p = draw(m.people);
            int q = (p + among(draw(8) == 0 ? 0 : 1, m.people - 1)) % m.people;
            int[] four = {p, q, draw(8) == 0 ? 10 * draw(2) : among(1, 9), draw(8) == 0 ? 13 : draw(13)};
            for (int k = 0; as && k < 4 && at + k < n; k++) {
                as = same("put" + shelf + " " + (at + k) + " " + four[k], x.put(shelf, at + k, four[k]), m.put(shelf, at + k, four[k]));
            }
        }
        return as;
    }

    private boolean sweep() {
        boolean as = true;
        for (int what = 0; as && what < 9; what++) {
            as = same("count" + what, x.count(what), m.count(what));
        }
        for (int what = 0; as && what < 52; what++) {
            for (int number = -1; as && number < 80; number++) {
                as = same("of" + number + " " + what, x.of(number, what), m.of(number, what));
            }
        }
        for (int dp = 0; as && dp < 480; dp++) {
            as = same("led" + dp, x.led(dp, 0), m.led(dp, 0)) && same("led" + dp, x.led(dp, 1), m.led(dp, 1));
        }
        for (int p = 0; as && p < 8; p++) {
            for (int t = 0; as && t < 48; t++) {
                as = same("has" + p + " " + t, x.has(p, t), m.has(p, t)) && same("worth" + p, x.worth(p, t), m.worth(p, t))
                    && same("plan" + p + " " + t, x.plan(p, t), m.plan(p, t)) && same("free" + p + " " + t, x.free(p, t), m.free(p, t));
            }
        }
        for (int d = 0; as && d < 20; d++) {
            as = same("bestDay" + d, x.bestDay(d, 0), m.bestDay(d, 0)) && same("bestDay" + d, x.bestDay(d, 1), m.bestDay(d, 1));
        }
        for (int shelf = 0; as && shelf < 6; shelf++) {
            for (int i = -1; as && i < 61; i++) {
                as = same("element" + shelf + " " + i, x.element(shelf, i), m.element(shelf, i));
            }
        }
        return as && same("wiped", x.wiped(), m.wiped()) && same("ring", x.ring(), m.ring());
    }

    private boolean run(int[] weights) {
        boolean as = true;
        int first = draw(9);
        for (int p = 0; as && p < first; p++) {
            as = call(0);
        }
        while (as && calls < CALLS) {
            as = call(pick(weights));
        }
        return as && sweep();
    }

    public static void main(String[] args) {
        long all = 0;
        for (int run = 0; run < RUNS; run++) {
            ModelTest test = new ModelTest();
            if (!test.run(WEIGHTS[run % WEIGHTS.length])) {
                System.exit(1);
            }
            all += test.calls;
        }
        System.out.println(RUNS + " runs, " + all + " calls: all are answered as the model answers them");
    }

    // ---- the acts, by Java's own classes

    private static List<Integer> ran = new ArrayList<>();

    private static void runs(int number) {
        ran.add(number);
    }

    interface Owes {
        int n();

        default int owes(int x) {
            runs(1);
            return x + n();
        }
    }

    interface Tells {
        int works(int x);

        int asks(int x);

        default int tells(int x) {
            runs(2);
            return works(x) - asks(1);
        }
    }

    static class Day implements Owes, Tells {
        final int n;

        Day(int n) {
            this.n = n;
        }

        public int n() {
            return n;
        }

        int kind() {
            return 0;
        }

        public int works(int x) {
            runs(10);
            return owes(x) * 2;
        }

        public int asks(int x) {
            runs(11);
            return x ^ n;
        }
    }

    static class Owed extends Day {
        Owed(int n) {
            super(n);
        }

        int kind() {
            return 1;
        }

        public int owes(int x) {
            runs(20);
            return super.owes(x) + 3;
        }
    }

    static class Long_ extends Day {
        Long_(int n) {
            super(n);
        }

        int kind() {
            return 2;
        }

        public int works(int x) {
            runs(30);
            return -super.works(x);
        }
    }

    static class Half extends Long_ {
        Half(int n) {
            super(n);
        }

        int kind() {
            return 3;
        }

        public int asks(int x) {
            runs(40);
            return super.asks(x) * 3;
        }

        public int works(int x) {
            runs(41);
            return super.works(x + 1);
        }
    }

    static class Handed extends Owed {
        Handed(int n) {
            super(n);
        }

        int kind() {
            return 4;
        }

        public int asks(int x) {
            runs(50);
            return super.asks(x) - owes(2);
        }
    }

    static class Ill extends Half {
        Ill(int n) {
            super(n);
        }

        int kind() {
            return 5;
        }

        public int tells(int x) {
            runs(60);
            return super.tells(x) ^ 5;
        }
    }

    static class Holy extends Day {
        Holy(int n) {
            super(n);
        }

        int kind() {
            return 6;
        }

        public int owes(int x) {
            runs(70);
            return super.owes(x) * 2;
        }
    }

    static class Struck extends Handed {
        Struck(int n) {
            super(n);
        }

        int kind() {
            return 7;
        }

        public int works(int x) {
            runs(80);
            return super.works(x) + asks(2);
        }

        public int tells(int x) {
            runs(81);
            return super.tells(x) - 1;
        }
    }

    private static Day dayOf(int kind, int n) {
        switch (kind) {
            case 0: return new Day(n);
            case 1: return new Owed(n);
            case 2: return new Long_(n);
            case 3: return new Half(n);
            case 4: return new Handed(n);
            case 5: return new Ill(n);
            case 6: return new Holy(n);
            default: return new Struck(n);
        }
    }

    private static final List<Class<?>> CLASSES = List.of(Day.class, Owed.class, Long_.class, Half.class, Handed.class, Ill.class,
        Holy.class, Struck.class);

    // ---- THE LAW by descent

    static final class Text {
        final String s;
        int at = 0;
        int open = 0;
        int[] names = new int[6];

        Text(String s) {
            this.s = s;
        }

        static final class Fault extends RuntimeException {
            private static final long serialVersionUID = 1;
        }

        static boolean isSo(String s) {
            try {
                new Text(s).text();
                return true;
            } catch (Fault f) {
                return false;
            }
        }

        // Whether a TEXT goes on with this: what lacks is at most an O and six brackets' ends.
        static boolean goesOn(String s) {
            for (String operand : new String[] {"", "0"}) {
                for (int k = 0; k <= 6; k++) {
                    if (isSo(s + operand + ")".repeat(k))) {
                        return true;
                    }
                }
            }
            return false;
        }

        static int faultOf(String s) {
            if (isSo(s)) {
                return -1;
            }
            for (int k = 0; k < s.length(); k++) {
                if (!goesOn(s.substring(0, k + 1))) {
                    return k;
                }
            }
            return s.length();
        }

        char now() {
            return at < s.length() ? s.charAt(at) : '\uffff';
        }

        boolean take(char c) {
            if (now() == c) {
                at++;
                return true;
            }
            return false;
        }

        int text() {
            int worth = 0;
            boolean found = false;
            do {
                int first = e();
                boolean has = take('?');
                int value = has ? e() : first;
                if (!found && (!has || first != 0)) {
                    found = true;
                    worth = value;
                }
            } while (take(';'));
            if (at < s.length()) {
                throw new Fault();
            }
            return worth;
        }

        int e() {
            int v = a();
            while (take('|')) {
                int w = a();
                v = v != 0 | w != 0 ? 1 : 0;
            }
            return v;
        }

        int a() {
            int v = b();
            while (take('&')) {
                int w = b();
                v = v != 0 & w != 0 ? 1 : 0;
            }
            return v;
        }

        int b() {
            int v = sum();
            if (take('<')) {
                return v < sum() ? 1 : 0;
            }
            if (take('=')) {
                return v == sum() ? 1 : 0;
            }
            if (take('>')) {
                return v > sum() ? 1 : 0;
            }
            return v;
        }

        int sum() {
            int v = product();
            while (true) {
                if (take('+')) {
                    v += product();
                } else if (take('-')) {
                    v -= product();
                } else {
                    return v;
                }
            }
        }

        int product() {
            int v = o();
            while (true) {
                if (take('*')) {
                    v *= o();
                } else if (take('/')) {
                    int w = o();
                    v = w == 0 ? 0 : (int) ((long) v / w);
                } else if (take('%')) {
                    int w = o();
                    v = w == 0 ? 0 : (int) ((long) v % w);
                } else {
                    return v;
                }
            }
        }

        int o() {
            char c = now();
            if (c == '!' || c == '-' || c == '(') {
                at++;
                open++;
                if (open > 6) {
                    throw new Fault();
                }
                int v = c == '(' ? e() : o();
                if (c == '(' && !take(')')) {
                    throw new Fault();
                }
                open--;
                return c == '!' ? (v == 0 ? 1 : 0) : c == '-' ? -v : v;
            }
            int name = "dmlspq".indexOf(c);
            if (name >= 0) {
                at++;
                return names[name];
            }
            int from = at;
            while (now() >= '0' && now() <= '9') {
                at++;
            }
            if (at == from || at > from + 4) {
                throw new Fault();
            }
            return Integer.parseInt(s.substring(from, at));
        }
    }

    // ---- the document, told once more

    static final class Model {
        static final int BAD = -1, NOT = -2, FULL = -3, STATE = -5, VOID = -2000000000;
        int people = 0;
        int[] skill = new int[8];
        int[] light = new int[12];
        int rule = 0;
        int ill = 1;
        String tape = "";
        String law = null;
        List<int[]> debts = new ArrayList<>();   // who, to whom, days, kind, nick
        List<int[]> asks = new ArrayList<>();    // debt, day, done
        int now = 0;
        int[][][] led = new int[48][8][];
        int[] got = new int[8];
        Object[] image = null;
        Deque<int[]> done = new ArrayDeque<>();
        Deque<int[]> undone = new ArrayDeque<>();
        List<Day> bodies = new ArrayList<>();
        List<Integer> trace = new ArrayList<>();
        Object[] shelves = new Object[6];

        Model() {
            Arrays.fill(light, 5);
        }

        boolean isPerson(int p) {
            return p >= 0 && p < people;
        }

        boolean isPair(int pq) {
            return pq >= 0 && isPerson(pq / 10) && isPerson(pq % 10) && pq / 10 != pq % 10;
        }

        boolean isDay(int t) {
            return t >= 0 && t < 48;
        }

        int person(int s) {
            if (s < 1 || s > 9) {
                return BAD;
            }
            if (people == 8) {
                return FULL;
            }
            skill[people] = s;
            return people++;
        }

        boolean isDebtSo(int p, int q, int days, int kind) {
            return isPerson(p) && isPerson(q) && p != q && days >= 1 && days <= 9 && kind >= 0 && kind <= 12;
        }

        int debt(int pq, int dk) {
            if (pq < 0 || dk < 0 || !isDebtSo(pq / 10, pq % 10, dk / 100, dk % 100)) {
                return BAD;
            }
            if (debts.size() == 20) {
                return FULL;
            }
            debts.add(new int[] {pq / 10, pq % 10, dk / 100, dk % 100, 0});
            return debts.size() - 1;
        }

        int debts(int shelf, int i, int n) {
            if (shelf < 0 || shelf > 5 || n < 1 || n > 15) {
                return BAD;
            }
            if (shelves[shelf] != null && !(shelves[shelf] instanceof byte[])) {
                return -12;
            }
            byte[] row = (byte[]) shelves[shelf];
            int came = 0;
            try {
                for (; came < n; came++) {
                    int at = Math.addExact(i, 4 * came);
                    int[] four = {row[at], row[at + 1], row[at + 2], row[at + 3], 0};
                    if (!isDebtSo(four[0], four[1], four[2], four[3]) || debts.size() == 20) {
                        break;
                    }
                    debts.add(four);
                }
            } catch (NullPointerException | ArrayIndexOutOfBoundsException | ArithmeticException ended) {
                return came;
            }
            return came;
        }

        int read(int number, int what) {
            return what == 0 ? light[number] : what == 1 ? skill[number] : what == 2 ? rule : ill;
        }

        void write(int[] change, int v) {
            if (change[1] == 0) {
                light[change[0]] = v;
            } else if (change[1] == 1) {
                skill[change[0]] = v;
            } else if (change[1] == 2) {
                rule = v;
            } else {
                ill = v;
            }
        }

        int mend(int number, int what, int v) {
            if (what < 0 || what > 3 || number < 0 || number >= new int[] {12, people, 1, 1}[what]
                || v < new int[] {1, 1, 0, 0}[what] || v > new int[] {9, 9, 2, 12}[what]) {
                return BAD;
            }
            int was = read(number, what);
            if (was != v) {
                done.addLast(new int[] {number, what, was, v});
                undone.clear();
                if (done.size() > 40) {
                    done.removeFirst();
                }
                write(done.getLast(), v);
            }
            return was;
        }

        int undo() {
            if (done.isEmpty()) {
                return STATE;
            }
            int[] c = done.removeLast();
            undone.addLast(c);
            write(c, c[2]);
            return done.size();
        }

        int redo() {
            if (undone.isEmpty()) {
                return STATE;
            }
            int[] c = undone.removeLast();
            done.addLast(c);
            write(c, c[3]);
            return undone.size();
        }

        int sum(int p, int q) {
            return debts.stream().filter(d -> (p < 0 || d[0] == p) && (q < 0 || d[1] == q)).mapToInt(d -> d[2]).sum();
        }

        int of(int number, int what) {
            if (what >= 0 && what <= 4 && number >= 0 && number < debts.size()) {
                return debts.get(number)[what];
            }
            if (what >= 10 && what <= 13 && isPerson(number)) {
                return new int[] {skill[number], sum(number, -1), sum(-1, number), got[number]}[what - 10];
            }
            if (what == 20 && number >= 0 && number < 12) {
                return light[number];
            }
            if (what == 30 && isPair(number)) {
                return sum(number / 10, number % 10);
            }
            if (what >= 40 && what <= 42 && number >= 0 && number < asks.size()) {
                return asks.get(number)[what - 40];
            }
            return what == 50 && number == 0 ? rule : what == 51 && number == 0 ? ill : VOID;
        }

        int feed(int c) {
            if (c < 0 || c > 255) {
                return BAD;
            }
            if (tape.length() == 120) {
                return FULL;
            }
            tape += (char) c;
            return tape.length();
        }

        int law() {
            int fault = Text.faultOf(tape);
            if (fault < 0) {
                law = tape;
            }
            tape = "";
            return fault < 0 ? 1 : -100 - fault;
        }

        int worthOf(int p, int q, int day) {
            int l = light[day / 4];
            if (law == null) {
                return l * skill[p];
            }
            Text t = new Text(law);
            t.names = new int[] {day, day / 4, l, skill[p], p, q};
            return Math.min(99, Math.max(0, t.text()));
        }

        int worth(int pq, int day) {
            return isPair(pq) && isDay(day) ? worthOf(pq / 10, pq % 10, day) : BAD;
        }

        int ask(int debt, int day) {
            if (debt < 0 || debt >= debts.size() || !isDay(day) || day < now + 3 || day % 4 == 3) {
                return BAD;
            }
            if (debts.get(debt)[2] == 0) {
                return STATE;
            }
            if (asks.size() == 30) {
                return FULL;
            }
            asks.add(new int[] {debt, day, 0});
            return asks.size() - 1;
        }

        int[] askThatHas(int person, int day) {
            int[] best = null;
            int most = -1;
            for (int[] a : asks) {
                int[] d = debts.get(a[0]);
                if (a[1] == day && a[2] == 0 && d[0] == person && d[2] > 0) {
                    int merit = rule == 0 ? 0 : rule == 1 ? sum(person, d[1]) : worthOf(person, d[1], day);
                    if (merit > most) {
                        best = a;
                        most = merit;
                    }
                }
            }
            return best;
        }

        int has(int person, int day) {
            if (!isPerson(person) || day < now || !isDay(day)) {
                return BAD;
            }
            int[] a = askThatHas(person, day);
            return a == null ? NOT : debts.get(a[0])[1];
        }

        void worked(int[] d, int day) {
            if (d[3] == 12 || light[d[3]] <= light[day / 4]) {
                d[2]--;
            } else if (d[4] == 1) {
                d[4] = 0;
                d[2]--;
            } else {
                d[4] = 1;
            }
            tidy();
        }

        void tidy() {
            for (int[] d : debts) {
                d[4] = d[2] == 0 ? 0 : d[4];
            }
        }

        int go(int seed, int n) {
            if (n < 1 || n > 48) {
                return BAD;
            }
            if (now + n > 48) {
                return STATE;
            }
            int z = seed;
            int sum = 0;
            while (n-- > 0) {
                for (int p = 0; p < people; p++) {
                    z = z * 1103515245 + 12345;
                    int[] a = askThatHas(p, now);
                    led[now][p] = null;
                    if (a != null && (z >>> 8) % 12 >= ill) {
                        int[] d = debts.get(a[0]);
                        got[d[1]] += worthOf(p, d[1], now);
                        led[now][p] = new int[] {d[1], a[0]};
                        worked(d, now);
                        sum++;
                    }
                }
                for (int[] a : asks) {
                    a[2] = a[1] == now ? 1 : a[2];
                }
                now++;
            }
            return sum;
        }

        int led(int dp, int what) {
            if (dp < 0 || dp / 10 >= now || !isPerson(dp % 10) || what < 0 || what > 1) {
                return BAD;
            }
            int[] l = led[dp / 10][dp % 10];
            return l == null ? NOT : l[what];
        }

        int waits() {
            return (int) asks.stream().filter(a -> a[2] == 0).count();
        }

        int bestDay(int debt, int what) {
            if (debt < 0 || debt >= debts.size() || what < 0 || what > 1) {
                return BAD;
            }
            int[] d = debts.get(debt);
            if (d[2] == 0) {
                return STATE;
            }
            List<int[]> days = new ArrayList<>();
            for (int t = now + 3; t < 48; t++) {
                if (t % 4 != 3) {
                    days.add(new int[] {t, worthOf(d[0], d[1], t)});
                }
            }
            days.sort((s, t) -> t[1] - s[1]);
            return days.isEmpty() ? NOT : days.get(0)[what];
        }

        int plan(int person, int t) {
            if (!isPerson(person) || !isDay(t)) {
                return BAD;
            }
            int sum = 0;
            for (int p = 0; p < people; p++) {
                List<Integer> worths = new ArrayList<>();
                for (int day = now + 3; day <= t; day++) {
                    if (day % 4 != 3) {
                        worths.add(worthOf(p, person, day));
                    }
                }
                worths.sort(Collections.reverseOrder());
                sum += worths.stream().limit(sum(p, person)).mapToInt(w -> w).sum();
            }
            return sum;
        }

        int free(int person, int t) {
            if (!isPerson(person) || !isDay(t)) {
                return VOID;
            }
            int days = 0;
            for (int day = now + 3; day <= t; day++) {
                days += day % 4 == 3 ? 0 : 1;
            }
            return days - sum(person, -1);
        }

        // Whether a set goes round: from its first, whoever is owed has just one in the set, until all are met.
        boolean isRing(List<Integer> set) {
            int[] first = debts.get(set.get(0));
            int at = first[0];
            int met = 0;
            for (int step = 0; step < set.size(); step++) {
                int[] one = null;
                for (int s : set) {
                    if (debts.get(s)[0] == at) {
                        if (one != null) {
                            return false;
                        }
                        one = debts.get(s);
                    }
                }
                if (one == null || one[3] != first[3] || one[2] == 0 || (met >> at & 1) != 0) {
                    return false;
                }
                met |= 1 << at;
                at = one[1];
            }
            return at == first[0];
        }

        int ring() {
            for (int size = 2; size <= 5; size++) {
                int bits = (1 << size) - 1;
                while (bits < 1 << debts.size()) {
                    List<Integer> set = new ArrayList<>();
                    for (int k = 0; k < debts.size(); k++) {
                        if ((bits >> k & 1) != 0) {
                            set.add(k);
                        }
                    }
                    if (isRing(set)) {
                        return bits;
                    }
                    int low = bits & -bits;          // the next set of as many
                    int up = bits + low;
                    bits = (up ^ bits) / low >> 2 | up;
                }
            }
            return NOT;
        }

        int strike() {
            int bits = ring();
            if (bits < 0) {
                return NOT;
            }
            int least = 9;
            for (int k = 0; k < debts.size(); k++) {
                least = (bits >> k & 1) != 0 ? Math.min(least, debts.get(k)[2]) : least;
            }
            for (int k = 0; k < debts.size(); k++) {
                debts.get(k)[2] -= (bits >> k & 1) * least;
            }
            tidy();
            return least;
        }

        // By trial: someone who is not even settles with each who is uneven the other way.
        int fewest(int[] net, int from) {
            while (from < 8 && net[from] == 0) {
                from++;
            }
            if (from == 8) {
                return 0;
            }
            int best = 99;
            for (int to = from + 1; to < 8; to++) {
                if ((net[from] > 0) != (net[to] > 0) && net[to] != 0) {
                    net[to] += net[from];
                    best = Math.min(best, 1 + fewest(net, from + 1));
                    net[to] -= net[from];
                }
            }
            return best;
        }

        int wiped() {
            int[] net = new int[8];
            for (int[] d : debts) {
                if (d[3] == 12) {
                    net[d[0]] -= d[2];
                    net[d[1]] += d[2];
                }
            }
            return fewest(net, 0);
        }

        int balance(int p) {
            return isPerson(p) ? sum(-1, p) - sum(p, -1) : VOID;
        }

        int isHandable(int ab) {
            if (ab < 0 || ab / 100 >= debts.size() || ab % 100 >= debts.size()) {
                return BAD;
            }
            int[] a = debts.get(ab / 100);
            int[] b = debts.get(ab % 100);
            boolean like = a[2] == b[2] && a[3] == b[3] && a[4] == b[4] && a[2] > 0;
            return like && a[1] == b[0] && b[1] != a[0] ? 1 : NOT;
        }

        int hand(int ab) {
            int may = isHandable(ab);
            if (may == 1) {
                debts.get(ab / 100)[1] = debts.get(ab % 100)[1];
                debts.get(ab % 100)[2] = 0;
                tidy();
            }
            return may;
        }

        int runaway(int p) {
            if (!isPerson(p)) {
                return BAD;
            }
            int sum = sum(p, -1);
            debts.stream().filter(d -> d[0] == p).forEach(d -> d[2] = 0);
            tidy();
            return sum;
        }

        int heir(int pq) {
            if (!isPair(pq)) {
                return BAD;
            }
            int p = pq / 10;
            int q = pq % 10;
            int sum = 0;
            for (int[] d : debts) {
                if (d[2] > 0 && (d[0] == p || d[1] == p)) {
                    d[0] = d[0] == p ? q : d[0];
                    d[1] = d[1] == p ? q : d[1];
                    if (d[0] == d[1]) {
                        throw new IllegalStateException("between the two");
                    }
                    sum++;
                }
            }
            return sum;
        }

        int heirOfBoth(int pq) {
            if (isPair(pq)) {
                for (int[] d : debts) {
                    if (d[0] + d[1] == pq / 10 + pq % 10 && (d[0] == pq / 10 || d[1] == pq / 10)) {
                        d[2] = 0;
                    }
                }
                tidy();
            }
            return heir(pq);
        }

        int judge(int shelf) {
            if (shelf < 0 || shelf > 5) {
                return BAD;
            }
            if (shelves[shelf] == null) {
                return -11;
            }
            if (!(shelves[shelf] instanceof short[])) {
                return -12;
            }
            short[] r = (short[]) shelves[shelf];
            for (int k = 0; k < (r.length + 2) / 3; k++) {
                boolean as = 3 * k + 3 <= r.length && isPerson(r[3 * k]) && isPerson(r[3 * k + 1]) && r[3 * k] != r[3 * k + 1];
                if (!as || r[3 * k + 2] != -1 && r[3 * k + 2] != sum(r[3 * k], r[3 * k + 1])) {
                    return k;
                }
            }
            return NOT;
        }

        int wet(int shelf, int pq) {
            if (shelf < 0 || shelf > 5 || !isPair(pq) || !(shelves[shelf] instanceof short[])) {
                return VOID;
            }
            short[] r = (short[]) shelves[shelf];
            int dry = 0;
            for (int k = 0; k < r.length / 3; k++) {
                dry += r[3 * k] == pq / 10 && r[3 * k + 1] == pq % 10 && r[3 * k + 2] != -1 ? r[3 * k + 2] : 0;
            }
            return sum(pq / 10, pq % 10) - dry;
        }

        static List<int[]> copy(List<int[]> rows) {
            List<int[]> c = new ArrayList<>();
            rows.forEach(r -> c.add(r.clone()));
            return c;
        }

        static int[][][] copy(int[][][] l) {
            int[][][] c = new int[48][8][];
            for (int day = 0; day < 48; day++) {
                c[day] = l[day].clone();
            }
            return c;
        }

        int image() {
            image = new Object[] {copy(debts), copy(asks), now, copy(led), got.clone()};
            return now;
        }

        @SuppressWarnings("unchecked")
        int back() {
            if (image == null) {
                return STATE;
            }
            debts = copy((List<int[]>) image[0]);
            asks = copy((List<int[]>) image[1]);
            now = (Integer) image[2];
            led = copy((int[][][]) image[3]);
            got = ((int[]) image[4]).clone();
            return now;
        }

        int body(int kind) {
            if (kind < 0 || kind > 7) {
                return BAD;
            }
            if (bodies.size() == 50) {
                return FULL;
            }
            bodies.add(dayOf(kind, bodies.size()));
            return bodies.size() - 1;
        }

        int act(int body, int act, int x) {
            ran = new ArrayList<>();
            trace = ran;
            if (body < 0 || body >= bodies.size() || act < 0 || act > 3) {
                return 0;
            }
            Day d = bodies.get(body);
            return act == 0 ? d.owes(x) : act == 1 ? d.works(x) : act == 2 ? d.asks(x) : d.tells(x);
        }

        int trace(int i) {
            return i >= 0 && i < trace.size() && i < 24 ? trace.get(i) : BAD;
        }

        int keep(int shelf, int body) {
            if (shelf < 0 || shelf > 5 || body < -1 || body >= bodies.size()) {
                return BAD;
            }
            shelves[shelf] = body < 0 ? null : bodies.get(body);
            return 1;
        }

        int row(int shelf, int sort, int n) {
            if (shelf < 0 || shelf > 5 || sort < 0 || sort > 4 || n > 60) {
                return BAD;
            }
            try {
                shelves[shelf] = sort == 0 ? new byte[n] : sort == 1 ? new short[n] : sort == 2 ? new int[n]
                    : sort == 3 ? new long[n] : new boolean[n];
                return 1;
            } catch (NegativeArraySizeException below) {
                return -14;
            }
        }

        int put(int shelf, int i, long v) {
            if (shelf < 0 || shelf > 5) {
                return BAD;
            }
            Object r = shelves[shelf];
            try {
                if (r instanceof byte[]) {
                    ((byte[]) r)[i] = (byte) v;
                } else if (r instanceof short[]) {
                    ((short[]) r)[i] = (short) v;
                } else if (r instanceof int[]) {
                    ((int[]) r)[i] = (int) v;
                } else if (r instanceof long[]) {
                    ((long[]) r)[i] = v;
                } else if (r instanceof boolean[]) {
                    ((boolean[]) r)[i] = v != 0;
                } else {
                    return r == null ? -11 : -12;
                }
                return 1;
            } catch (ArrayIndexOutOfBoundsException out) {
                return -13;
            }
        }

        long element(int shelf, int i) {
            Object r = shelf < 0 || shelf > 5 ? null : shelves[shelf];
            if (r == null || r instanceof Day || i < 0 || i >= java.lang.reflect.Array.getLength(r)) {
                return Long.MIN_VALUE;
            }
            return r instanceof boolean[] ? (((boolean[]) r)[i] ? 1 : 0) : java.lang.reflect.Array.getLong(r, i);
        }

        @SuppressWarnings("SuspiciousSystemArraycopy")
        int shift(int shelf, int i, int other, int j, int n) {
            if (shelf < 0 || shelf > 5 || other < 0 || other > 5) {
                return BAD;
            }
            try {
                System.arraycopy(shelves[shelf], i, shelves[other], j, n);
                return n;
            } catch (NullPointerException none) {
                return -11;
            } catch (ArrayStoreException unlike) {
                return -12;
            } catch (IndexOutOfBoundsException out) {
                return -13;
            }
        }

        int taken(int shelf, int k) {
            if (shelf < 0 || shelf > 5 || k < 0 || k > 7) {
                return BAD;
            }
            if (shelves[shelf] == null) {
                return -11;
            }
            return CLASSES.get(k).isInstance(shelves[shelf]) ? ((Day) shelves[shelf]).kind() : -12;
        }

        int count(int what) {
            int open = (int) debts.stream().filter(d -> d[2] > 0).count();
            int[] counts = {people, debts.size(), open, asks.size(), now, tape.length(), done.size(), bodies.size(), trace.size()};
            return what >= 0 && what < counts.length ? counts[what] : BAD;
        }
    }
}
