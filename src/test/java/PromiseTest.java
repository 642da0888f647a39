// For each promise of DOC.md: ordinary inputs, the edges that the document names, and wrong inputs.
public final class PromiseTest {
    private static final int BAD = -1, NOT = -2, FULL = -3, STATE = -5, VOID = -2000000000;
    private static int checks = 0;
    private static int wrong = 0;
    private static int promise = 0;

    private static void due(String call, long got, long want) {
        checks++;
        if (got != want) {
            wrong++;
            System.out.println("promise " + promise + ": " + call + " answered " + got + ", due is " + want);
        }
    }

    private static OwedDays withPeople(int... skills) {
        OwedDays x = new OwedDays();
        for (int skill : skills) {
            x.person(skill);
        }
        return x;
    }

    private static int lawOf(OwedDays x, String text) {
        for (int i = 0; i < text.length(); i++) {
            x.feed(text.charAt(i));
        }
        return x.law();
    }

    // What the law answers for a TEXT on a new object.
    private static void fault(String text, int place) {
        due("law of " + text, lawOf(new OwedDays(), text), place < 0 ? 1 : -100 - place);
    }

    // What person 0 (SKILL 3) is worth to person 1 (SKILL 9) on DAY 22 (MONTH 5, LIGHT 7) by a TEXT.
    private static void value(String text, int worth) {
        OwedDays x = withPeople(3, 9);
        x.mend(5, 0, 7);
        due("law of " + text, lawOf(x, text), 1);
        due("worth by " + text, x.worth(1, 22), worth);
    }

    private static void fill(OwedDays x, int shelf, int sort, int... elements) {
        x.row(shelf, sort, elements.length);
        for (int i = 0; i < elements.length; i++) {
            x.put(shelf, i, elements[i]);
        }
    }

    private static void promise1() {
        OwedDays x = new OwedDays();
        for (int what = 0; what <= 8; what++) {
            due("count(" + what + ")", x.count(what), 0);
        }
        due("LIGHT at first", x.of(0, 20), 5);
        due("LIGHT at first", x.of(11, 20), 5);
        due("RULE at first", x.of(0, 50), 0);
        due("ILL at first", x.of(0, 51), 1);
        due("nobody owes", x.wiped(), 0);
        due("no ring", x.ring(), NOT);
        for (int shelf = 0; shelf < 6; shelf++) {
            due("shelf holds nothing", x.taken(shelf, 0), -11);
        }
        due("BAD", OwedDays.BAD, -1);
        due("NOT", OwedDays.NOT, -2);
        due("FULL", OwedDays.FULL, -3);
        due("STATE", OwedDays.STATE, -5);
        due("VOID", OwedDays.VOID, -2000000000);
    }

    private static void promise2() {
        OwedDays x = new OwedDays();
        due("person(0)", x.person(0), BAD);
        due("person(10)", x.person(10), BAD);
        due("person(MIN)", x.person(Integer.MIN_VALUE), BAD);
        due("none came", x.count(0), 0);
        for (int p = 0; p < 8; p++) {
            due("person", x.person(p + 1), p);
            due("its SKILL", x.of(p, 10), p + 1);
        }
        due("the ninth", x.person(9), FULL);
        due("the ninth, not so", x.person(0), BAD);
        due("eight are there", x.count(0), 8);
    }

    private static void promise3() {
        OwedDays x = withPeople(1, 2, 3);
        due("debt(-1)", x.debt(-1, 112), BAD);
        due("nobody 3", x.debt(3, 112), BAD);
        due("nobody 3", x.debt(30, 112), BAD);
        due("one and the same", x.debt(11, 112), BAD);
        due("pq 100", x.debt(100, 112), BAD);
        due("0 days", x.debt(1, 12), BAD);
        due("10 days", x.debt(1, 1001), BAD);
        due("KIND 13", x.debt(1, 113), BAD);
        due("KIND 99", x.debt(1, 199), BAD);
        due("dk below 0", x.debt(1, -112), BAD);
        due("dk MIN", x.debt(1, Integer.MIN_VALUE), BAD);
        due("none came", x.count(1), 0);
        for (int d = 0; d < 20; d++) {
            due("debt", x.debt(d % 2 == 0 ? 1 : 20, 100 * (d % 9 + 1) + d % 13), d);
        }
        due("the first's days", x.of(0, 2), 1);
        due("the last: who OWES", x.of(19, 0), 2);
        due("the last: to whom", x.of(19, 1), 0);
        due("the last: DAYS", x.of(19, 2), 2);
        due("the last: KIND", x.of(19, 3), 6);
        due("the last: NICK", x.of(19, 4), 0);
        due("one more", x.debt(1, 112), FULL);
        due("one more, not so", x.debt(1, 13), BAD);
    }

    private static void promise4() {
        OwedDays x = withPeople(1, 2, 3);
        due("shelf 6", x.debts(6, 0, 1), BAD);
        due("shelf -1", x.debts(-1, 0, 1), BAD);
        due("n 0", x.debts(0, 0, 0), BAD);
        due("n 16", x.debts(0, 0, 16), BAD);
        due("nothing is there", x.debts(0, 0, 15), 0);
        x.body(0);
        x.keep(0, 0);
        due("a DAY", x.debts(0, 0, 1), -12);
        x.row(0, 1, 8);
        due("shorts", x.debts(0, 0, 1), -12);
        x.row(0, 4, 8);
        due("booleans", x.debts(0, 0, 1), -12);
        fill(x, 0, 0, 7, 0, 1, 3, 12, 2, 1, 9, 0, 1, 2, 4);
        due("from place 1 on, the third lacks its end", x.debts(0, 1, 3), 2);
        due("first: who", x.of(0, 0), 0);
        due("first: days", x.of(0, 2), 3);
        due("first: KIND", x.of(0, 3), 12);
        due("second: to whom", x.of(1, 1), 1);
        due("second: days", x.of(1, 2), 9);
        due("one of two", x.debts(0, 1, 1), 1);
        due("behind its end", x.debts(0, 12, 1), 0);
        due("far behind its end", x.debts(0, Integer.MAX_VALUE, 15), 0);
        due("ahead of its place 0", x.debts(0, -1, 1), 0);
        due("far ahead of its place 0", x.debts(0, Integer.MIN_VALUE, 15), 0);
        due("three came", x.count(1), 3);
        fill(x, 1, 0, 0, 1, 1, 0, 1, 1, 1, 0, 0, 2, 1, 0);
        due("the second is between like people", x.debts(1, 0, 3), 1);
        fill(x, 1, 0, 0, 3, 1, 0);
        due("nobody 3", x.debts(1, 0, 1), 0);
        fill(x, 1, 0, -1, 0, 1, 0);
        due("nobody -1", x.debts(1, 0, 1), 0);
        fill(x, 1, 0, 0, 1, 10, 0);
        due("10 days", x.debts(1, 0, 1), 0);
        fill(x, 1, 0, 0, 1, 0, 0);
        due("0 days", x.debts(1, 0, 1), 0);
        fill(x, 1, 0, 0, 1, 1, 13);
        due("KIND 13", x.debts(1, 0, 1), 0);
        fill(x, 1, 0, 0, 1, 1, -1);
        due("KIND -1", x.debts(1, 0, 1), 0);
        x.row(2, 0, 60);
        for (int k = 0; k < 60; k++) {
            x.put(2, k, k % 4 == 3 ? 5 : k % 4 == 0 ? 2 : 1);
        }
        due("fifteen", x.debts(2, 0, 15), 15);
        due("one more is the twentieth", x.debts(2, 0, 3), 1);
        due("FULL", x.debts(2, 0, 3), 0);
        due("twenty", x.count(1), 20);
    }

    private static void promise5() {
        OwedDays x = withPeople(4, 6);
        due("LIGHT", x.mend(11, 0, 9), 5);
        due("LIGHT again", x.mend(11, 0, 1), 9);
        due("LIGHT is", x.of(11, 20), 1);
        due("SKILL", x.mend(1, 1, 9), 6);
        due("SKILL is", x.of(1, 10), 9);
        due("RULE", x.mend(0, 2, 2), 0);
        due("RULE is", x.of(0, 50), 2);
        due("RULE to 0", x.mend(0, 2, 0), 2);
        due("RULE to 1", x.mend(0, 2, 1), 0);
        due("ILL", x.mend(0, 3, 12), 1);
        due("ILL to 0", x.mend(0, 3, 0), 12);
        due("ILL is", x.of(0, 51), 0);
        due("the same", x.mend(0, 3, 0), 0);
        int[][] bad = {{12, 0, 1}, {-1, 0, 1}, {0, 0, 0}, {0, 0, 10}, {2, 1, 1}, {-1, 1, 1}, {0, 1, 0}, {0, 1, 10},
            {1, 2, 1}, {0, 2, 3}, {0, 2, -1}, {1, 3, 1}, {0, 3, 13}, {0, 3, -1}, {0, 4, 1}, {0, -1, 1}};
        for (int[] b : bad) {
            due("mend(" + b[0] + ", " + b[1] + ", " + b[2] + ")", x.mend(b[0], b[1], b[2]), BAD);
        }
        due("changes", x.count(6), 8);
    }

    private static void promise6() {
        OwedDays x = withPeople(4, 6, 8);
        x.mend(0, 3, 0);
        x.debt(1, 312);
        x.debt(1, 200);
        x.debt(12, 911);
        x.debt(21, 105);
        x.ask(1, 4);
        int[] debt1 = {0, 1, 2, 0, 0};
        for (int what = 0; what < 5; what++) {
            due("of debt 1, " + what, x.of(1, what), debt1[what]);
        }
        due("SKILL", x.of(2, 10), 8);
        due("OWES", x.of(0, 11), 5);
        due("OWES", x.of(1, 11), 9);
        due("is owed", x.of(1, 12), 6);
        due("is owed", x.of(2, 12), 9);
        due("GOT", x.of(1, 13), 0);
        due("OWED", x.of(1, 30), 5);
        due("OWED the other way", x.of(10, 30), 0);
        due("ASK's DEBT", x.of(0, 40), 1);
        due("ASK's DAY", x.of(0, 41), 4);
        due("not done", x.of(0, 42), 0);
        x.mend(0, 0, 6);
        x.go(1, 5);
        due("GOT", x.of(1, 13), 20);
        due("done", x.of(0, 42), 1);
        due("a half is kept", x.of(1, 4), 1);
        OwedDays y = withPeople(1, 1, 1, 1, 1, 1, 1, 1);
        for (int d = 0; d < 20; d++) {
            y.debt(10 * (7 - d / 5) + d % 5 % 4, 100 * (d % 9 + 1));
        }
        for (int p = 0; p < 8; p++) {
            for (int q = 0; q < 8; q++) {
                int sum = 0;
                for (int d = 0; d < 20; d++) {
                    sum += y.of(d, 0) == p && y.of(d, 1) == q ? y.of(d, 2) : 0;
                }
                due("OWED of " + p + " to " + q, y.of(10 * p + q, 30), p == q ? VOID : sum);
            }
        }
        int[][] none = {{4, 0}, {-1, 0}, {4, 4}, {0, 5}, {0, -1}, {3, 10}, {-1, 11}, {3, 13}, {0, 14}, {0, 9},
            {12, 20}, {-1, 20}, {0, 19}, {0, 21}, {0, 30}, {11, 30}, {3, 30}, {-1, 30}, {100, 30}, {1, 31},
            {1, 40}, {-1, 41}, {1, 42}, {0, 43}, {0, 39}, {1, 50}, {-1, 50}, {1, 51}, {0, 52}, {0, 49}};
        for (int[] n : none) {
            due("of(" + n[0] + ", " + n[1] + ")", x.of(n[0], n[1]), VOID);
        }
    }

    private static void promise7() {
        OwedDays x = new OwedDays();
        due("feed(-1)", x.feed(-1), BAD);
        due("feed(256)", x.feed(256), BAD);
        due("feed(0)", x.feed(0), 1);
        due("feed(255)", x.feed(255), 2);
        for (int k = 3; k <= 120; k++) {
            due("feed", x.feed('d'), k);
        }
        due("the 121st", x.feed('d'), FULL);
        due("the 121st, not so", x.feed(256), BAD);
        due("on the tape", x.count(5), 120);
    }

    private static void promise8() {
        fault("", 0);
        fault("d", -1);
        fault("1234", -1);
        fault("12345", 4);
        fault("0000", -1);
        fault("d?", 2);
        fault("d;", 2);
        fault("?d", 0);
        fault(";d", 0);
        fault("d?m?l", 3);
        fault("d?m;l?s;p", -1);
        fault("d?m;;", 4);
        fault("(d?m)", 2);
        fault("(d;m)", 2);
        fault("(d", 2);
        fault("(d))", 3);
        fault("d)", 1);
        fault("()", 1);
        fault("d<m<l", 3);
        fault("d<m=l", 3);
        fault("d<m&l>s|p=q", -1);
        fault("(d<m)<l", -1);
        fault("d<(m<l)", -1);
        fault("(d<m=l)", 4);
        fault("d<m+1<l", 5);
        fault("dm", 1);
        fault("1d", 1);
        fault("d1", 1);
        fault("(d)1", 3);
        fault("(d)d", 3);
        fault("(1)1", 3);
        fault("1|2?3", -1);
        fault("d!", 1);
        fault("d(", 1);
        fault("d +1", 1);
        fault(" d", 0);
        fault("d+*m", 2);
        fault("d--m", -1);
        fault("d-!-m", -1);
        fault("+d", 0);
        fault("x", 0);
        fault("D", 0);
        fault("d+", 2);
        fault("\u00ff", 0);
        fault("\u0000", 0);
        fault("!-(!-(d))", -1);
        fault("!-(!-(-d))", 6);
        fault("!-(!-((d)))", 6);
        fault("------d", -1);
        fault("-------d", 6);
        fault("!!!!!!!d", 6);
        fault("(((((((d", 6);
        fault("((((((d))))))", -1);
        fault("!d+!d+!d+!d+!d+!d+!d+!d", -1);
        fault("(d)*(d)*(d)*(d)*(d)*(d)*(d)", -1);
        fault("(!d+!d*-d|!d&!d<!d)-(((((-d+1)))))", -1);
        fault("(!d+!d*-d|!d&!d<!d)-((((((-d+1))))))", 26);
        fault("d~", 1);
        fault("~d", 0);
        fault("d!=m", 1);
        fault("(-----d+-----d)--d", -1);
        fault("(-----d+------d)", 13);
        OwedDays x = withPeople(3, 9);
        StringBuilder long120 = new StringBuilder("1");
        for (int k = 0; k < 59; k++) {
            long120.append("+1");
        }
        due("119 bytes", lawOf(x, long120.toString()), 1);
        due("worth by them", x.worth(1, 0), 60);
        due("tape is empty", x.count(5), 0);
        due("120 bytes", lawOf(x, "-" + long120), 1);
        due("worth by them", x.worth(1, 0), 58);
        due("a FAULT at the end of 120 bytes", lawOf(x, long120 + "+"), -220);
        due("the law stays", x.worth(1, 0), 58);
        due("tape is empty", x.count(5), 0);
        due("empty tape", x.law(), -100);
        due("brackets open", lawOf(x, "((((!-"), -106);
        due("all six may be open again", lawOf(x, "((((!-d))))"), 1);
        due("brackets open", lawOf(x, "(d"), -102);
        due("no bracket to end", lawOf(x, "d)"), -101);
        due("a condition behind", lawOf(x, "d?"), -102);
        due("another may come", lawOf(x, "d?m"), 1);
        due("a + open", lawOf(x, "d+1+"), -104);
        due("and gone", lawOf(x, "7"), 1);
        due("worth by it", x.worth(1, 9), 7);
    }

    private static void promise9() {
        OwedDays x = withPeople(3, 9);
        x.mend(5, 0, 7);
        due("l times s", x.worth(1, 22), 21);
        due("l times s", x.worth(10, 24), 45);
        due("HOLY", x.worth(1, 23), 21);
        due("DAY 47", x.worth(1, 47), 15);
        OwedDays y = withPeople(1, 2, 3, 4, 5, 6, 7, 8);
        for (int p = 0; p < 8; p++) {
            for (int q = 0; q < 8; q++) {
                due("of " + p + " for " + q, y.worth(10 * p + q, 8), p == q ? BAD : 5 * p + 5);
            }
        }
        lawOf(y, "8*p+q");
        for (int p = 0; p < 8; p++) {
            for (int q = 0; q < 8; q++) {
                due("by a law, of " + p + " for " + q, y.worth(10 * p + q, 8), p == q ? BAD : 8 * p + q);
            }
        }
        due("DAY 48", x.worth(1, 48), BAD);
        due("DAY -1", x.worth(1, -1), BAD);
        due("one and the same", x.worth(11, 0), BAD);
        due("nobody 2", x.worth(2, 0), BAD);
        due("nobody 2", x.worth(20, 0), BAD);
        due("pq -1", x.worth(-1, 0), BAD);
        value("d", 22);
        value("m", 5);
        value("l", 7);
        value("s", 3);
        value("p", 0);
        value("q", 1);
        value("99", 99);
        value("100", 99);
        value("0-1", 0);
        value("-1", 0);
        value("--1", 1);
        value("!0", 1);
        value("!7", 0);
        value("!!7", 1);
        value("1+2*3", 7);
        value("(1+2)*3", 9);
        value("20-5-3", 12);
        value("90/4/5", 4);
        value("90%50%7", 5);
        value("2*9%5", 3);
        value("9-7/2", 6);
        value("50+-7/2", 47);
        value("50+-7%4", 47);
        value("50-(0-7)/2", 53);
        value("7/0+1", 1);
        value("7%0+1", 1);
        value("-2+5", 3);
        value("-2*-3", 6);
        value("!0+1", 2);
        value("!(0+1)", 0);
        value("1<2", 1);
        value("2<1", 0);
        value("2<2", 0);
        value("2>1", 1);
        value("2>2", 0);
        value("(1|0)+5", 6);
        value("(1&1)+5", 6);
        value("0|1?7;8", 7);
        value("0|0?7;8", 8);
        value("0;1?7", 0);
        value("1>2", 0);
        value("2=2", 1);
        value("2=1", 0);
        value("1+1=2", 1);
        value("5|0", 1);
        value("0|0", 0);
        value("0|5", 1);
        value("5&3", 1);
        value("5&0", 0);
        value("0&5", 0);
        value("1|0&0", 1);
        value("(1|0)&0", 0);
        value("1<2&3>2", 1);
        value("2=1|3", 1);
        value("5&6=6", 1);
        value("0?7;8", 8);
        value("1?7;8", 7);
        value("-1?7;8", 7);
        value("0?7", 0);
        value("0?7;0?8", 0);
        value("0?7;d=22?8;9", 8);
        value("6;7", 6);
        value("0;7", 0);
        value("0?1;6;7", 6);
        value("m=5?l*s;1", 21);
        value("9999*9999*9999%100", 0);
        value("9999*9999*9999%100+99", 30);
        value("9999*9999*22/9999/1", 0);
        value("-(9999*9999*22)/9999/1000/10", 20);
        value("(9999*9999*21+9999*9999*21)*0+5", 5);
        value("-1/2+3", 3);
        value("(0-2147*1000*1000-483*1000-648)/-1<0", 1);
        value("(0-2147*1000*1000-483*1000-648)%-1", 0);
    }

    private static void promise10() {
        OwedDays x = withPeople(3, 9);
        x.debt(1, 912);
        x.debt(10, 112);
        due("no debt 2", x.ask(2, 4), BAD);
        due("no debt -1", x.ask(-1, 4), BAD);
        due("too early", x.ask(0, 2), BAD);
        due("HOLY", x.ask(0, 3), BAD);
        due("HOLY 47", x.ask(0, 47), BAD);
        due("DAY 48", x.ask(0, 48), BAD);
        due("DAY -1", x.ask(0, -1), BAD);
        due("DAY MAX", x.ask(0, Integer.MAX_VALUE), BAD);
        due("the first", x.ask(0, 4), 0);
        due("the same again", x.ask(0, 4), 1);
        due("the last DAY", x.ask(0, 46), 2);
        x.mend(0, 3, 0);
        x.go(1, 2);
        due("too early at NOW 2", x.ask(0, 4), BAD);
        due("NOW and 3", x.ask(0, 5), 3);
        x.runaway(1);
        due("not OPEN", x.ask(1, 5), STATE);
        due("not OPEN, HOLY", x.ask(1, 7), BAD);
        for (int k = 4; k < 30; k++) {
            due("ask", x.ask(0, 40), k);
        }
        due("the 31st", x.ask(0, 40), FULL);
        due("the 31st, not OPEN", x.ask(1, 40), STATE);
        due("the 31st, too early", x.ask(0, 4), BAD);
        due("thirty", x.count(3), 30);
    }

    private static void promise11() {
        OwedDays x = withPeople(3, 9, 1, 5);
        x.debt(1, 112);
        x.debt(2, 312);
        x.debt(1, 101);
        x.debt(3, 312);
        x.debt(12, 912);
        due("nobody", x.has(0, 4), NOT);
        x.ask(0, 4);
        x.ask(1, 4);
        x.ask(3, 4);
        x.ask(4, 5);
        due("who asked first", x.has(0, 4), 1);
        due("another DAY", x.has(0, 5), NOT);
        due("another one", x.has(1, 5), 2);
        due("who asked isn't had", x.has(2, 4), NOT);
        x.mend(0, 2, 1);
        due("whom it OWES most, of like ones the first", x.has(0, 4), 2);
        x.debt(1, 211);
        due("all OPEN DEBTS together", x.has(0, 4), 1);
        x.mend(0, 2, 2);
        due("like worth: who asked first", x.has(0, 4), 1);
        lawOf(x, "q%3");
        due("worth most", x.has(0, 4), 2);
        x.mend(0, 2, 0);
        x.runaway(0);
        due("none is OPEN", x.has(0, 4), NOT);
        due("nobody 4", x.has(4, 4), BAD);
        due("nobody -1", x.has(-1, 4), BAD);
        due("DAY 48", x.has(0, 48), BAD);
        due("DAY 47", x.has(0, 47), NOT);
        due("NOW", x.has(0, 0), NOT);
        x.go(0, 4);
        due("a DAY that was", x.has(0, 3), BAD);
        due("NOW", x.has(1, 5), 2);
        x.go(0, 44);
        due("no DAY is left", x.has(1, 48), BAD);

        OwedDays y = withPeople(1, 1, 1, 1);
        y.debt(1, 112);
        y.debt(2, 112);
        y.debt(12, 112);
        y.ask(0, 4);
        y.ask(1, 4);
        y.hand(2);
        due("handed on: who is owed has it", y.has(0, 4), 2);
        y.heir(3);
        due("the heir is asked", y.has(3, 4), 2);
        due("no more the other one", y.has(0, 4), NOT);
    }

    private static void promise12() {
        OwedDays x = withPeople(3, 9);
        due("n 0", x.go(1, 0), BAD);
        due("n -1", x.go(1, -1), BAD);
        due("n 49", x.go(1, 49), BAD);
        x.mend(0, 3, 0);
        x.debt(1, 112);
        x.debt(1, 212);
        x.debt(10, 112);
        x.ask(0, 4);
        x.ask(1, 4);
        x.ask(0, 5);
        x.ask(2, 5);
        x.ask(1, 6);
        due("nothing yet", x.go(1, 4), 0);
        due("both DAYS", x.go(1, 2), 2);
        due("worked off", x.of(0, 2), 0);
        due("one's ask alone", x.of(1, 2), 2);
        due("GOT", x.of(1, 13), 15);
        due("GOT", x.of(0, 13), 45);
        due("done", x.of(1, 42), 1);
        due("done without work", x.of(2, 42), 1);
        due("not done", x.of(4, 42), 0);
        due("NOW", x.count(4), 6);
        due("43 are not left", x.go(1, 43), STATE);
        due("49 on", x.go(1, 49), BAD);
        due("all that are left", x.go(1, 42), 1);
        due("NOW", x.count(4), 48);
        due("none is left", x.go(1, 1), STATE);
        halves();
        draws();
    }

    private static void halves() {
        OwedDays x = withPeople(2, 2);
        x.mend(0, 3, 0);
        x.mend(1, 0, 4);
        x.debt(1, 202);
        x.debt(10, 101);
        for (int day = 4; day < 12; day++) {
            x.ask(0, day);
            x.ask(1, day);
        }
        due("to DAY 4", x.go(9, 5), 2);
        due("LIGHT 4 is less than 5: a half", x.of(0, 4), 1);
        due("LIGHT 4 is less than 5", x.of(0, 2), 2);
        due("LIGHT 4 for 4: whole, and no DAYS left", x.of(1, 2), 0);
        due("the second half", x.go(9, 1), 1);
        due("two halves are one", x.of(0, 2), 1);
        due("no half is kept", x.of(0, 4), 0);
        due("a half's worth is GOT whole", x.of(1, 13), 16);
        due("a half", x.go(9, 1), 1);
        due("a half", x.of(0, 4), 1);
        due("HOLY", x.go(9, 1), 0);
        due("a whole one behind a half", x.go(9, 1), 1);
        due("nothing is left", x.of(0, 2), 0);
        due("no half either", x.of(0, 4), 0);
    }

    // The SEED's draws go on from day to day, HOLY ones too.
    private static void draws() {
        for (int seed = -3; seed < 40; seed += 7) {
            OwedDays x = withPeople(1, 1, 1);
            x.mend(0, 3, 5);
            x.debt(1, 912);
            x.debt(12, 912);
            x.debt(20, 912);
            int[] days = {4, 5, 6, 8, 9};
            for (int day : days) {
                for (int debt = 0; debt < 3; debt++) {
                    x.ask(debt, day);
                }
            }
            int z = seed;
            int worked = 0;
            for (int day = 0; day < 10; day++) {
                for (int person = 0; person < 3; person++) {
                    z = z * 1103515245 + 12345;
                    if (day >= 4 && day % 4 != 3 && (z >>> 8) % 12 >= 5) {
                        worked++;
                    }
                }
            }
            due("draws of SEED " + seed, x.go(seed, 10), worked);
        }
        OwedDays all = withPeople(1, 1);
        all.debt(1, 912);
        all.ask(0, 4);
        all.mend(0, 3, 12);
        due("all are ILL", all.go(5, 5), 0);
        due("the ask is done", all.of(0, 42), 1);
    }

    private static void promise13() {
        OwedDays x = withPeople(3, 9);
        x.mend(0, 3, 0);
        x.debt(1, 112);
        x.debt(1, 112);
        x.ask(1, 4);
        due("no DAY was", x.led(0, 0), BAD);
        x.go(1, 5);
        due("for whom", x.led(40, 0), 1);
        due("on which", x.led(40, 1), 1);
        due("nobody", x.led(41, 0), NOT);
        due("nobody", x.led(41, 1), NOT);
        due("HOLY", x.led(30, 0), NOT);
        due("DAY 0", x.led(0, 0), NOT);
        due("what 2", x.led(40, 2), BAD);
        due("what -1", x.led(40, -1), BAD);
        due("nobody 2", x.led(42, 0), BAD);
        due("nobody 9", x.led(49, 0), BAD);
        due("not yet", x.led(50, 0), BAD);
        due("dp -1", x.led(-1, 0), BAD);
        due("dp MIN", x.led(Integer.MIN_VALUE, 0), BAD);
        x.person(1);
        due("who came later", x.led(42, 0), NOT);
        x.heir(12);
        due("as it was", x.led(40, 0), 1);
        OwedDays all = withPeople(1, 1, 1, 1, 1, 1, 1, 1);
        all.mend(0, 3, 0);
        for (int p = 0; p < 8; p++) {
            all.debt(10 * p + (p + 3) % 8, 912);
            all.ask(p, 4);
            all.ask(p, p % 2 == 0 ? 5 : 6);
        }
        all.go(1, 7);
        for (int dp = 0; dp < 70; dp++) {
            int p = dp % 10;
            boolean works = dp / 10 == 4 || dp / 10 == 5 + p % 2;
            due("whom, led(" + dp + ")", all.led(dp, 0), p > 7 ? BAD : works ? (p + 3) % 8 : NOT);
            due("which, led(" + dp + ")", all.led(dp, 1), p > 7 ? BAD : works ? p : NOT);
        }
        x.go(1, 43);
        due("DAY 47", x.led(471, 0), NOT);
        due("DAY 48", x.led(480, 0), BAD);
    }

    private static void promise14() {
        OwedDays x = withPeople(3, 9);
        due("none", x.waits(), 0);
        x.debt(1, 112);
        x.ask(0, 4);
        x.ask(0, 4);
        x.ask(0, 5);
        due("three", x.waits(), 3);
        x.go(1, 4);
        due("three", x.waits(), 3);
        x.go(1, 1);
        due("one", x.waits(), 1);
        x.runaway(0);
        due("asks stay", x.waits(), 1);
        x.go(1, 43);
        due("none", x.waits(), 0);
    }

    private static void promise15() {
        OwedDays x = withPeople(3, 9);
        due("no debt", x.bestDay(0, 0), BAD);
        x.debt(1, 112);
        x.debt(10, 112);
        due("what 2", x.bestDay(0, 2), BAD);
        due("what -1", x.bestDay(0, -1), BAD);
        due("of like ones the first", x.bestDay(0, 0), 4);
        due("its worth", x.bestDay(0, 1), 15);
        due("its worth", x.bestDay(1, 1), 45);
        x.mend(0, 0, 9);
        due("too early", x.bestDay(0, 0), 4);
        x.mend(3, 0, 6);
        due("best", x.bestDay(0, 0), 12);
        due("its worth", x.bestDay(0, 1), 18);
        lawOf(x, "d");
        due("not HOLY", x.bestDay(0, 0), 46);
        lawOf(x, "0");
        due("of no worth, the first", x.bestDay(0, 0), 4);
        due("of no worth", x.bestDay(0, 1), 0);
        x.runaway(0);
        due("not OPEN", x.bestDay(0, 0), STATE);
        x.go(1, 43);
        due("one DAY is left", x.bestDay(1, 0), 46);
        x.go(1, 1);
        due("only DAY 47, HOLY", x.bestDay(1, 0), NOT);
        due("only DAY 47, HOLY", x.bestDay(1, 1), NOT);
        due("not OPEN", x.bestDay(0, 1), STATE);
        x.go(1, 4);
        due("no DAY", x.bestDay(1, 0), NOT);
    }

    private static void promise16() {
        OwedDays x = withPeople(3, 9, 2);
        due("nobody owes", x.plan(0, 47), 0);
        x.debt(1, 312);
        x.debt(1, 200);
        x.debt(21, 911);
        x.debt(12, 911);
        lawOf(x, "d*s");
        due("till NOW and 3", x.plan(1, 3), 0);
        due("till NOW", x.plan(1, 0), 0);
        due("till 4", x.plan(1, 4), 12 + 8);
        due("till 5", x.plan(1, 5), 27 + 18);
        due("till 7", x.plan(1, 7), 45 + 30);
        due("the five best of each", x.plan(1, 10), 3 * (10 + 9 + 8 + 6 + 5) + 2 * (10 + 9 + 8 + 6 + 5 + 4));
        due("by others", x.plan(2, 4), 36);
        due("nobody owes it", x.plan(0, 47), 0);
        x.go(1, 3);
        due("from NOW and 3", x.plan(1, 6), 18 + 12);
        due("DAY 48", x.plan(1, 48), BAD);
        due("DAY -1", x.plan(1, -1), BAD);
        due("nobody 3", x.plan(3, 4), BAD);
        due("nobody -1", x.plan(-1, 4), BAD);
        OwedDays y = withPeople(9, 9);
        for (int k = 0; k < 8; k++) {
            y.debt(1, 912);
        }
        lawOf(y, "99");
        due("more OWED than DAYS", y.plan(1, 47), 33 * 99);
        lawOf(y, "1");
        due("of little worth", y.plan(1, 47), 33);
        lawOf(y, "0");
        due("of no worth", y.plan(1, 47), 0);
    }

    private static void promise17() {
        OwedDays x = withPeople(3, 9);
        due("nothing OWED", x.free(0, 47), 33);
        due("till NOW", x.free(0, 0), 0);
        due("till 3, HOLY", x.free(0, 3), 0);
        due("till 4", x.free(0, 4), 1);
        due("till 7", x.free(0, 7), 3);
        x.debt(1, 512);
        x.debt(1, 200);
        due("less what it OWES", x.free(0, 47), 26);
        due("below 0", x.free(0, 7), -4);
        due("who is owed", x.free(1, 47), 33);
        x.go(1, 10);
        due("from NOW and 3", x.free(1, 14), 2);
        due("DAY 48", x.free(0, 48), VOID);
        due("DAY -1", x.free(0, -1), VOID);
        due("nobody 2", x.free(2, 4), VOID);
        due("nobody -1", x.free(-1, 4), VOID);
    }

    private static void promise18() {
        OwedDays x = withPeople(1, 1, 1, 1, 1, 1);
        due("none", x.ring(), NOT);
        x.debt(1, 112);
        x.debt(12, 112);
        x.debt(20, 111);
        due("of unlike KINDS", x.ring(), NOT);
        x.debt(20, 912);
        due("three", x.ring(), 1 + 2 + 8);
        x.debt(21, 512);
        due("two are fewer", x.ring(), 2 + 16);
        x.debt(21, 112);
        due("the least bits", x.ring(), 2 + 16);
        x.debt(10, 112);
        due("the least bits", x.ring(), 2 + 16);
        x.debt(1, 101);
        x.debt(10, 101);
        x.runaway(2);
        due("not those that are not OPEN", x.ring(), 1 + 64);
        x.runaway(0);
        due("none", x.ring(), NOT);

        OwedDays y = withPeople(1, 1, 1, 1, 1, 1);
        y.debt(1, 112);
        y.debt(12, 112);
        y.debt(23, 112);
        y.debt(34, 112);
        y.debt(45, 112);
        y.debt(50, 112);
        due("six are too many", y.ring(), NOT);
        y.debt(40, 112);
        due("five", y.ring(), 1 + 2 + 4 + 8 + 64);
        y.debt(53, 112);
        due("three", y.ring(), 8 + 16 + 128);
        due("nothing was struck", y.count(2), 8);

        OwedDays z = withPeople(1, 1, 1);
        z.debt(1, 112);
        z.debt(2, 112);
        z.debt(20, 112);
        z.debt(10, 112);
        due("least bits, not the first met", z.ring(), 2 + 4);
    }

    private static void promise19() {
        OwedDays x = withPeople(1, 1, 1, 1, 1, 1, 1, 1);
        due("none", x.wiped(), 0);
        x.debt(1, 311);
        due("not of KIND 12", x.wiped(), 0);
        x.debt(1, 312);
        due("one", x.wiped(), 1);
        x.debt(12, 312);
        due("one in place of two", x.wiped(), 1);
        x.debt(20, 312);
        due("a ring", x.wiped(), 0);
        x.debt(34, 512);
        x.debt(35, 212);
        due("two", x.wiped(), 2);
        x.debt(67, 212);
        due("three", x.wiped(), 3);
        x.debt(50, 212);
        due("two even sets", x.wiped(), 3);
        x.debt(1, 912);
        x.debt(27, 412);
        due("all", x.wiped(), 5);
        x.runaway(3);
        due("as it is then", x.wiped(), 4);
        OwedDays y = withPeople(1, 1, 1, 1, 1, 1);
        y.debt(1, 512);
        y.debt(20, 312);
        y.debt(32, 412);
        y.debt(34, 312);
        y.debt(53, 112);
        due("even sets aren't those of neighbours alone", y.wiped(), 4);
    }

    private static void promise20() {
        OwedDays x = withPeople(1, 1, 1);
        due("nothing", x.balance(0), 0);
        x.debt(1, 312);
        x.debt(10, 100);
        x.debt(20, 900);
        due("owed less OWES", x.balance(0), 7);
        due("owed less OWES", x.balance(1), 2);
        due("below 0", x.balance(2), -9);
        due("nobody 3", x.balance(3), VOID);
        due("nobody -1", x.balance(-1), VOID);
        x.runaway(2);
        due("OPEN ones", x.balance(0), -2);
    }

    private static void promise21() {
        OwedDays x = withPeople(1, 1, 1, 1);
        x.debt(1, 312);
        x.debt(12, 312);
        x.debt(12, 212);
        x.debt(12, 311);
        x.debt(10, 312);
        x.debt(23, 312);
        due("ab -1", x.hand(-1), BAD);
        due("no debt 6", x.hand(6), BAD);
        due("no debt 6", x.hand(600), BAD);
        due("ab MIN", x.hand(Integer.MIN_VALUE), BAD);
        due("itself", x.hand(0), NOT);
        due("unlike DAYS", x.hand(2), NOT);
        due("unlike KIND", x.hand(3), NOT);
        due("r is p", x.hand(4), NOT);
        due("not joined", x.hand(5), NOT);
        due("the wrong way round", x.hand(100), NOT);
        due("handed on", x.hand(1), 1);
        due("a: who", x.of(0, 0), 0);
        due("a: to whom", x.of(0, 1), 2);
        due("a: DAYS", x.of(0, 2), 3);
        due("b: none", x.of(1, 2), 0);
        due("b not OPEN", x.hand(1), NOT);
        due("and on", x.hand(5), 1);
        due("a: to whom", x.of(0, 1), 3);
        OwedDays y = withPeople(1, 1, 1);
        y.mend(0, 3, 0);
        y.mend(0, 0, 9);
        y.debt(1, 200);
        y.debt(12, 200);
        y.ask(0, 4);
        y.ask(1, 5);
        y.go(1, 5);
        due("unlike NICKS", y.hand(1), NOT);
        y.go(1, 1);
        due("like NICKS", y.hand(1), 1);
        due("a's half stays", y.of(0, 4), 1);
        due("b's half is gone", y.of(1, 4), 0);
        y.runaway(0);
        due("a half goes with the DAYS", y.of(0, 4), 0);
        due("neither is OPEN", y.hand(1), NOT);
        OwedDays all = withPeople(1, 1, 1, 1, 1, 1, 1, 1);
        for (int d = 0; d < 18; d++) {
            all.debt(1, 100 + d % 13);
        }
        all.debt(67, 512);
        all.debt(56, 512);
        due("the last two", all.hand(1918), 1);
        due("a: to whom", all.of(19, 1), 7);
        due("b: none", all.of(18, 2), 0);
        due("no debt 20", all.hand(2019), BAD);
        due("no debt 20", all.hand(1920), BAD);
    }

    private static void promise22() {
        OwedDays x = withPeople(1, 1, 1);
        due("none", x.strike(), NOT);
        x.debt(1, 312);
        x.debt(12, 912);
        x.debt(20, 212);
        x.debt(20, 112);
        due("by the least", x.strike(), 2);
        due("less", x.of(0, 2), 1);
        due("less", x.of(1, 2), 7);
        due("none left", x.of(2, 2), 0);
        due("not in the ring", x.of(3, 2), 1);
        due("the next", x.strike(), 1);
        due("none left", x.of(0, 2), 0);
        due("less", x.of(1, 2), 6);
        due("no more", x.strike(), NOT);
        OwedDays y = withPeople(1, 1);
        y.mend(0, 3, 0);
        y.mend(0, 0, 9);
        y.debt(1, 200);
        y.debt(10, 300);
        y.ask(0, 4);
        y.ask(1, 4);
        y.go(1, 5);
        due("halves do not matter", y.strike(), 2);
        due("the half is gone", y.of(0, 4), 0);
        due("the half stays", y.of(1, 4), 1);
        due("one is left", y.of(1, 2), 1);
    }

    private static void promise23() {
        OwedDays x = withPeople(1, 1, 1);
        x.debt(1, 312);
        x.debt(2, 500);
        x.debt(10, 900);
        x.debt(12, 400);
        x.ask(0, 4);
        due("nobody 3", x.runaway(3), BAD);
        due("nobody -1", x.runaway(-1), BAD);
        due("the sum", x.runaway(0), 8);
        due("none left", x.of(0, 2), 0);
        due("none left", x.of(1, 2), 0);
        due("those to it stay", x.of(2, 2), 9);
        due("others' stay", x.of(3, 2), 4);
        due("asks stay", x.count(3), 1);
        due("again", x.runaway(0), 0);
        due("one without debts", x.runaway(2), 0);
    }

    private static void promise24() {
        OwedDays x = withPeople(1, 1, 1);
        x.debt(1, 312);
        x.debt(2, 500);
        x.debt(20, 900);
        x.debt(10, 400);
        x.debt(12, 400);
        x.debt(2, 100);
        x.ask(1, 4);
        due("one and the same", x.heir(0), BAD);
        due("one and the same", x.heir(22), BAD);
        due("nobody 3", x.heir(3), BAD);
        due("nobody 3", x.heir(30), BAD);
        due("pq -1", x.heir(-1), BAD);
        due("from and to", x.heir(1), 3);
        due("between the two", x.of(0, 2), 0);
        due("between the two", x.of(3, 2), 0);
        due("who owes", x.of(1, 0), 1);
        due("to whom", x.of(1, 1), 2);
        due("who owes", x.of(2, 0), 2);
        due("to whom", x.of(2, 1), 1);
        due("days", x.of(2, 2), 9);
        due("others'", x.of(4, 0), 1);
        due("not OPEN: as it was", x.of(0, 0), 0);
        due("not OPEN: as it was", x.of(3, 1), 0);
        OwedDays all = withPeople(1, 1, 1, 1, 1, 1, 1, 1);
        all.debt(76, 112);
        all.debt(57, 112);
        all.debt(75, 112);
        due("7's to 6", all.heir(76), 2);
        due("between the two", all.of(0, 2), 0);
        due("to whom", all.of(1, 1), 6);
        due("who owes", all.of(2, 0), 6);
        due("6's to 3", all.heir(63), 2);
        due("who owes", all.of(2, 0), 3);
        due("asks stay", x.of(0, 40), 1);
        due("again", x.heir(1), 0);
    }

    private static void promise25() {
        OwedDays x = withPeople(1, 1, 1);
        x.debt(1, 312);
        x.debt(1, 200);
        x.debt(12, 400);
        due("shelf 6", x.judge(6), BAD);
        due("shelf -1", x.judge(-1), BAD);
        due("nothing", x.judge(0), -11);
        x.body(0);
        x.keep(0, 0);
        due("a DAY", x.judge(0), -12);
        x.row(0, 2, 3);
        due("ints", x.judge(0), -12);
        x.row(0, 0, 3);
        due("bytes", x.judge(0), -12);
        x.row(0, 1, 0);
        due("an empty book", x.judge(0), NOT);
        fill(x, 0, 1, 0, 1, 5, 1, 2, 4, 1, 0, 0);
        due("all is so", x.judge(0), NOT);
        fill(x, 0, 1, 0, 1, 5, 1, 2, 3, 1, 0, 0);
        due("not as OWED", x.judge(0), 1);
        fill(x, 0, 1, 0, 1, -1, 1, 2, -1, 1, 0, -1);
        due("wet ones are so", x.judge(0), NOT);
        fill(x, 0, 1, 0, 1, 5, 1, 2, -2);
        due("-2 is not wet", x.judge(0), 1);
        fill(x, 0, 1, 0, 1, 5, 1, 1, 0);
        due("one and the same", x.judge(0), 1);
        fill(x, 0, 1, 0, 3, 0);
        due("nobody 3", x.judge(0), 0);
        fill(x, 0, 1, -1, 0, 0);
        due("nobody -1", x.judge(0), 0);
        fill(x, 0, 1, 0, 1, 5, 0, 1);
        due("a three's end lacks", x.judge(0), 1);
        fill(x, 0, 1, 0, 1, 5, 0, 1, 4, 0);
        due("the first that is not so", x.judge(0), 1);
        fill(x, 0, 1, 0);
        due("a three's end lacks", x.judge(0), 0);
        fill(x, 0, 1, 0, 1, 5, 0, 1, 5);
        due("as it is", x.judge(0), NOT);
        fill(x, 0, 1, 0, 1, 5, 0, 1);
        due("nothing is left of a longer ROW", x.judge(0), 1);
        fill(x, 0, 1, 0, 1, 5, 0);
        due("nothing is left of a longer ROW", x.judge(0), 1);
        x.row(0, 1, 60);
        for (int at = 0; at < 60; at++) {
            x.put(0, at, at % 3 == 1 ? 1 : at % 3 == 2 ? 5 : 0);
        }
        due("twenty threes", x.judge(0), NOT);
        x.put(0, 59, 4);
        due("the twentieth", x.judge(0), 19);
    }

    private static void promise26() {
        OwedDays x = withPeople(1, 1, 1);
        x.debt(1, 912);
        x.debt(10, 200);
        due("nothing", x.wet(0, 1), VOID);
        x.body(0);
        x.keep(0, 0);
        due("a DAY", x.wet(0, 1), VOID);
        x.row(0, 2, 3);
        due("ints", x.wet(0, 1), VOID);
        fill(x, 0, 1, 0, 1, 3, 0, 1, -1, 1, 0, 1, 0, 1, 2, 0, 1, -1, 0, 2, 5, 0, 1);
        due("together", x.wet(0, 1), 4);
        due("the other way", x.wet(0, 10), 1);
        due("more is told than OWED", x.wet(0, 2), -5);
        due("not in the book", x.wet(0, 12), 0);
        due("one and the same", x.wet(0, 11), VOID);
        due("nobody 3", x.wet(0, 3), VOID);
        due("pq -1", x.wet(0, -1), VOID);
        due("shelf 6", x.wet(6, 1), VOID);
        due("shelf -1", x.wet(-1, 1), VOID);
        fill(x, 0, 1, 0, 1, 3, 0, 1, 4);
        due("all is told", x.wet(0, 1), 2);
        x.row(1, 1, 5);
        x.shift(0, 0, 1, 0, 5);
        due("a three's end that lacks tells nothing", x.wet(1, 1), 6);
        x.row(0, 1, 5);
        x.shift(1, 0, 0, 0, 5);
        due("nothing is left of a longer ROW", x.wet(0, 1), 6);
        OwedDays all = withPeople(1, 1, 1, 1, 1, 1, 1, 1);
        all.debt(76, 912);
        all.debt(67, 812);
        fill(all, 0, 1, 7, 6, 2, 6, 7, 5, 7, 6, -1);
        due("7's to 6", all.wet(0, 76), 7);
        due("6's to 7", all.wet(0, 67), 3);
    }

    private static void promises27and28() {
        OwedDays x = withPeople(3, 9);
        due("none", x.back(), STATE);
        x.mend(0, 3, 0);
        x.debt(1, 312);
        x.ask(0, 4);
        x.ask(0, 6);
        x.go(1, 5);
        promise = 27;
        due("NOW", x.image(), 5);
        x.debt(10, 412);
        x.ask(1, 8);
        x.person(5);
        x.mend(0, 0, 9);
        lawOf(x, "7");
        x.row(0, 0, 4);
        x.go(1, 10);
        x.heir(12);
        x.image();
        due("a later one", x.back(), 15);

        OwedDays y = withPeople(3, 9);
        y.mend(0, 3, 0);
        y.mend(3, 0, 8);
        y.debt(1, 312);
        y.ask(0, 4);
        y.ask(0, 6);
        y.go(1, 5);
        due("NOW", y.image(), 5);
        y.debt(10, 412);
        y.ask(1, 8);
        y.person(5);
        y.mend(0, 0, 9);
        lawOf(y, "7");
        due("two are worked", y.go(1, 10), 2);
        y.heir(12);
        promise = 28;
        due("NOW", y.back(), 5);
        due("NOW", y.count(4), 5);
        due("DEBTS", y.count(1), 1);
        due("to whom", y.of(0, 1), 1);
        due("DAYS", y.of(0, 2), 2);
        due("ASKS", y.count(3), 2);
        due("WAITS", y.waits(), 1);
        due("GOT", y.of(1, 13), 15);
        due("GOT", y.of(0, 13), 0);
        due("LED", y.led(40, 0), 1);
        due("LED", y.led(60, 0), BAD);
        due("people stay", y.count(0), 3);
        due("LIGHT stays", y.of(0, 20), 9);
        due("the law stays", y.worth(1, 0), 7);
        due("changes stay", y.count(6), 3);
        y.mend(0, 3, 12);
        y.go(1, 3);
        due("LED anew", y.led(60, 0), NOT);
        imageOfAll();
        due("laid back again", y.back(), 5);
        due("NOW", y.count(4), 5);
        due("the half and all", y.of(0, 4), 0);
    }

    // Whatever an image keeps is other when it is laid back; what came behind it leaves nothing.
    private static void imageOfAll() {
        OwedDays x = withPeople(3, 4, 5);
        x.mend(0, 3, 0);
        x.mend(0, 0, 9);
        x.debt(1, 200);
        x.debt(20, 301);
        x.ask(0, 4);
        x.ask(1, 6);
        x.go(1, 5);
        x.image();
        x.mend(1, 0, 9);
        x.debt(12, 500);
        x.ask(2, 8);
        x.ask(0, 8);
        due("0's to 2", x.heir(2), 1);
        due("worked", x.go(1, 4), 2);
        x.runaway(1);
        x.back();
        int[][] kept = {{0, 0, 0}, {0, 1, 1}, {0, 2, 2}, {0, 3, 0}, {0, 4, 1}, {1, 0, 2}, {1, 1, 0}, {1, 2, 3}, {1, 3, 1}, {1, 4, 0},
            {0, 40, 0}, {0, 41, 4}, {0, 42, 1}, {1, 40, 1}, {1, 41, 6}, {1, 42, 0}, {2, 0, VOID}, {2, 40, VOID},
            {0, 13, 0}, {1, 13, 15}, {2, 13, 0}, {1, 11, 0}, {2, 12, 0}};
        for (int[] k : kept) {
            due("of(" + k[0] + ", " + k[1] + ")", x.of(k[0], k[1]), k[2]);
        }
        due("LED", x.led(40, 0), 1);
        due("LED", x.led(40, 1), 0);
        x.go(1, 5);
        for (int dp = 50; dp < 93; dp++) {
            int want = dp % 10 > 2 ? BAD : dp == 62 ? 1 : NOT;
            due("nothing is left of led(" + dp + ")", x.led(dp, 1), want);
            due("nothing is left of led(" + dp + ")", x.led(dp, 0), dp == 62 ? 0 : want);
        }
        x.back();
        due("a new DEBT where one was", x.debt(21, 911), 2);
        due("its NICK", x.of(2, 4), 0);
        due("a new ASK where one was", x.ask(2, 13), 2);
        due("not done", x.of(2, 42), 0);
        due("WAITS", x.waits(), 2);
        OwedDays y = withPeople(1, 1);
        y.mend(0, 3, 0);
        y.mend(0, 0, 9);
        y.image();
        y.debt(1, 900);
        y.ask(0, 4);
        y.go(1, 5);
        due("a half", y.of(0, 4), 1);
        y.back();
        y.debt(1, 900);
        due("no half", y.of(0, 4), 0);
        y.ask(0, 4);
        due("not done", y.of(0, 42), 0);
        due("not LED", y.led(40, 0), BAD);
    }

    private static void promises29and30() {
        OwedDays x = withPeople(3, 9);
        promise = 29;
        due("none", x.undo(), STATE);
        promise = 30;
        due("none", x.redo(), STATE);
        x.mend(2, 0, 7);
        x.mend(1, 1, 2);
        x.mend(0, 2, 1);
        x.mend(0, 3, 4);
        x.mend(0, 3, 4);
        promise = 29;
        due("ILL", x.undo(), 3);
        due("ILL", x.of(0, 51), 1);
        due("RULE", x.undo(), 2);
        due("RULE", x.of(0, 50), 0);
        due("SKILL", x.undo(), 1);
        due("SKILL", x.of(1, 10), 9);
        due("LIGHT", x.undo(), 0);
        due("LIGHT", x.of(2, 20), 5);
        due("none", x.undo(), STATE);
        promise = 30;
        due("LIGHT", x.redo(), 3);
        due("LIGHT", x.of(2, 20), 7);
        due("SKILL", x.redo(), 2);
        due("SKILL", x.of(1, 10), 2);
        x.mend(0, 2, 0);
        due("the same number is none", x.redo(), 1);
        due("RULE", x.of(0, 50), 1);
        x.mend(0, 2, 2);
        due("another came behind", x.redo(), STATE);
        promise = 29;
        due("that one", x.undo(), 3);
        due("RULE", x.of(0, 50), 1);
        due("may be undone", x.count(6), 3);

        OwedDays y = new OwedDays();
        for (int k = 0; k < 44; k++) {
            y.mend(0, 0, k % 9 + 1);
        }
        due("40 are kept", y.count(6), 40);
        for (int k = 39; k >= 0; k--) {
            due("one by one", y.undo(), k);
        }
        due("no more", y.undo(), STATE);
        due("back to before the fifth", y.of(0, 20), 4);
        promise = 30;
        for (int k = 39; k >= 0; k--) {
            due("one by one", y.redo(), k);
        }
        due("no more", y.redo(), STATE);
        changesOfAll();
        due("the last", y.of(0, 20), 8);
    }

    // 44 changes of all that can be mended: back to the fourth, and to the last again.
    private static void changesOfAll() {
        OwedDays x = withPeople(1, 2, 3, 4);
        int[][] settings = {{3, 20}, {7, 20}, {1, 10}, {3, 10}, {0, 50}, {0, 51}, {11, 20}, {2, 10}};
        int[] what = {0, 0, 1, 1, 2, 3, 0, 1};
        int[][] then = new int[45][8];
        for (int k = 0; k <= 44; k++) {
            for (int s = 0; s < 8; s++) {
                then[k][s] = x.of(settings[s][0], settings[s][1]);
            }
            int number = settings[k % 8][0];
            if (k < 44) {
                x.mend(number, what[k % 8], what[k % 8] == 2 ? (then[k][4] + 1) % 3 : then[k][k % 8] % 9 + 1);
            }
        }
        for (int k = 43; k >= 4; k--) {
            x.undo();
            for (int s = 0; s < 8; s++) {
                due("undone to " + k, x.of(settings[s][0], settings[s][1]), then[k][s]);
            }
        }
        due("no more", x.undo(), STATE);
        for (int k = 5; k <= 44; k++) {
            x.redo();
            for (int s = 0; s < 8; s++) {
                due("done again to " + k, x.of(settings[s][0], settings[s][1]), then[k][s]);
            }
        }
    }

    private static void promise31() {
        OwedDays x = new OwedDays();
        due("KIND 8", x.body(8), BAD);
        due("KIND -1", x.body(-1), BAD);
        for (int b = 0; b < 50; b++) {
            due("body", x.body(b % 8), b);
        }
        due("one more", x.body(0), FULL);
        due("one more, not so", x.body(8), BAD);
        due("fifty", x.count(7), 50);
        x.keep(0, 47);
        due("its KIND", x.taken(0, 0), 7);
    }

    private static void acted(OwedDays x, int body, int act, int value, int... trace) {
        String call = "act(" + body + ", " + act + ", 10)";
        due(call, x.act(body, act, 10), value);
        due("bodies that ran in " + call, x.count(8), trace.length);
        for (int i = 0; i < trace.length; i++) {
            due("trace(" + i + ") of " + call, x.trace(i), trace[i]);
        }
        due("no more in " + call, x.trace(trace.length), BAD);
    }

    // Bodies 0 .. 7 of KINDS 0 .. 7: n is the KIND too.
    private static void promises32and33() {
        OwedDays x = new OwedDays();
        for (int kind = 0; kind < 8; kind++) {
            x.body(kind);
        }
        promise = 33;
        due("no act yet", x.trace(0), BAD);
        promise = 32;
        acted(x, 0, 0, 10, 1);
        acted(x, 0, 1, 20, 10, 1);
        acted(x, 0, 2, 10, 11);
        acted(x, 0, 3, 19, 2, 10, 1, 11);
        acted(x, 1, 0, 14, 20, 1);
        acted(x, 1, 1, 28, 10, 20, 1);
        acted(x, 1, 2, 11, 11);
        acted(x, 1, 3, 28, 2, 10, 20, 1, 11);
        acted(x, 2, 0, 12, 1);
        acted(x, 2, 1, -24, 30, 10, 1);
        acted(x, 2, 2, 8, 11);
        acted(x, 2, 3, -27, 2, 30, 10, 1, 11);
        acted(x, 3, 0, 13, 1);
        acted(x, 3, 1, -28, 41, 30, 10, 1);
        acted(x, 3, 2, 27, 40, 11);
        acted(x, 3, 3, -34, 2, 41, 30, 10, 1, 40, 11);
        acted(x, 4, 0, 17, 20, 1);
        acted(x, 4, 1, 34, 10, 20, 1);
        acted(x, 4, 2, 5, 50, 11, 20, 1);
        acted(x, 4, 3, 38, 2, 10, 20, 1, 50, 11, 20, 1);
        acted(x, 5, 0, 15, 1);
        acted(x, 5, 1, -32, 41, 30, 10, 1);
        acted(x, 5, 2, 45, 40, 11);
        acted(x, 5, 3, -47, 60, 2, 41, 30, 10, 1, 40, 11);
        acted(x, 6, 0, 32, 70, 1);
        acted(x, 6, 1, 64, 10, 70, 1);
        acted(x, 6, 2, 12, 11);
        acted(x, 6, 3, 57, 2, 10, 70, 1, 11);
        acted(x, 7, 0, 20, 20, 1);
        acted(x, 7, 1, 33, 80, 10, 20, 1, 50, 11, 20, 1);
        acted(x, 7, 2, 1, 50, 11, 20, 1);
        acted(x, 7, 3, 38, 81, 2, 80, 10, 20, 1, 50, 11, 20, 1, 50, 11, 20, 1);
        due("no such DAY", x.act(8, 0, 1), 0);
        due("no TRACE then", x.count(8), 0);
        x.act(7, 3, 10);
        due("no such DAY", x.act(-1, 0, 1), 0);
        due("no TRACE then", x.trace(0), BAD);
        x.act(7, 3, 10);
        due("no such ACT", x.act(0, 4, 1), 0);
        due("no TRACE then", x.count(8), 0);
        x.act(7, 3, 10);
        due("no such ACT", x.act(0, -1, 1), 0);
        due("no TRACE then", x.trace(0), BAD);
        due("wraps", x.act(1, 1, Integer.MAX_VALUE), 6);
        promise = 33;
        due("place -1", x.trace(-1), BAD);
        due("place 2", x.trace(2), 1);
        due("place 3", x.trace(3), BAD);
        due("place 24", x.trace(24), BAD);
        due("place MAX", x.trace(Integer.MAX_VALUE), BAD);
    }

    private static void promise34() {
        OwedDays x = new OwedDays();
        due("no body 0", x.keep(0, 0), BAD);
        x.body(3);
        due("shelf 6", x.keep(6, 0), BAD);
        due("shelf -1", x.keep(-1, 0), BAD);
        due("body -2", x.keep(0, -2), BAD);
        due("body 1", x.keep(0, 1), BAD);
        due("a DAY", x.keep(5, 0), 1);
        due("it is there", x.taken(5, 0), 3);
        due("nothing", x.keep(5, -1), 1);
        due("nothing is there", x.taken(5, 0), -11);
        x.row(5, 0, 3);
        due("a DAY in a ROW's place", x.keep(5, 0), 1);
        due("no ROW", x.element(5, 0), Long.MIN_VALUE);
        due("it is there", x.taken(5, 0), 3);
        x.row(5, 0, 3);
        due("nothing in a ROW's place", x.keep(5, -1), 1);
        due("nothing is there", x.put(5, 0, 1), -11);
    }

    private static void promise35() {
        OwedDays x = new OwedDays();
        due("shelf 6", x.row(6, 0, 1), BAD);
        due("shelf -1", x.row(-1, 0, 1), BAD);
        due("sort 5", x.row(0, 5, 1), BAD);
        due("sort -1", x.row(0, -1, 1), BAD);
        due("n 61", x.row(0, 0, 61), BAD);
        due("n -1", x.row(0, 0, -1), -14);
        due("n MIN", x.row(0, 4, Integer.MIN_VALUE), -14);
        due("sort 5, n -1", x.row(0, 5, -1), BAD);
        due("nothing came", x.put(0, 0, 1), -11);
        for (int sort = 0; sort < 5; sort++) {
            due("60", x.row(sort, sort, 60), 1);
            due("its last", x.element(sort, 59), 0);
            due("its end", x.element(sort, 60), Long.MIN_VALUE);
        }
        due("none", x.row(5, 2, 0), 1);
        due("no place", x.put(5, 0, 1), -13);
        x.put(0, 3, 9);
        x.put(0, 0, 9);
        due("anew", x.row(0, 0, 5), 1);
        due("0 at first", x.element(0, 0), 0);
        due("0 at first", x.element(0, 3), 0);
        due("no more than five", x.element(0, 5), Long.MIN_VALUE);
    }

    private static void promises36and37() {
        OwedDays x = new OwedDays();
        x.body(0);
        x.keep(1, 0);
        for (int sort = 0; sort < 5; sort++) {
            x.row(0, sort, 3);
            long[] values = {127, 128, -129, 32768, 65535, 0x80000000L, -1, 0x123456789ABCDEFL, 256, Long.MIN_VALUE + 1, 0};
            for (long v : values) {
                long kept = v;
                switch (sort) {
                    case 0: kept = (byte) v; break;
                    case 1: kept = (short) v; break;
                    case 2: kept = (int) v; break;
                    case 4: kept = v != 0 ? 1 : 0; break;
                    default: break;
                }
                promise = 36;
                due("put " + v + " in sort " + sort, x.put(0, 2, v), 1);
                promise = 37;
                due("element " + v + " of sort " + sort, x.element(0, 2), kept);
            }
        }
        int[][] refused = {{6, 0, -1}, {-1, 0, -1}, {2, 0, -11}, {2, -1, -11}, {1, 0, -12}, {1, 99, -12}, {0, 3, -13}, {0, -1, -13},
            {0, Integer.MAX_VALUE, -13}, {0, Integer.MIN_VALUE, -13}};
        for (int[] r : refused) {
            promise = 36;
            due("put(" + r[0] + ", " + r[1] + ")", x.put(r[0], r[1], 1), r[2]);
            promise = 37;
            due("element(" + r[0] + ", " + r[1] + ")", x.element(r[0], r[1]), Long.MIN_VALUE);
        }
    }

    private static void promise38() {
        OwedDays x = new OwedDays();
        x.body(0);
        fill(x, 0, 2, 1, 2, 3, 4, 5);
        fill(x, 1, 2, 9, 9, 9);
        x.row(2, 1, 5);
        x.keep(3, 0);
        due("to another", x.shift(0, 1, 1, 0, 2), 2);
        due("came", x.element(1, 0), 2);
        due("came", x.element(1, 1), 3);
        due("stays", x.element(1, 2), 9);
        due("upward within one", x.shift(0, 0, 0, 1, 4), 4);
        int[] up = {1, 1, 2, 3, 4};
        for (int i = 0; i < 5; i++) {
            due("as they all were before", x.element(0, i), up[i]);
        }
        due("downward within one", x.shift(0, 1, 0, 0, 4), 4);
        int[] down = {1, 2, 3, 4, 4};
        for (int i = 0; i < 5; i++) {
            due("as they all were before", x.element(0, i), down[i]);
        }
        due("none", x.shift(0, 5, 1, 3, 0), 0);
        due("shelf 6", x.shift(6, 0, 0, 0, 1), BAD);
        due("shelf -1", x.shift(0, 0, -1, 0, 1), BAD);
        due("nothing", x.shift(4, 0, 0, 0, 1), -11);
        due("nothing", x.shift(0, 0, 4, 0, 1), -11);
        due("a DAY, nothing", x.shift(3, 0, 4, 0, 1), -11);
        due("a DAY", x.shift(3, 0, 0, 0, 1), -12);
        due("a DAY", x.shift(0, 0, 3, 0, 1), -12);
        due("two DAYS", x.shift(3, 0, 3, 0, 1), -12);
        due("unlike sorts", x.shift(0, 0, 2, 0, 1), -12);
        due("unlike sorts, no place", x.shift(0, 9, 2, 0, 1), -12);
        int[][] places = {{-1, 0, 1}, {0, -1, 1}, {0, 0, -1}, {6, 0, 0}, {0, 4, 0}, {5, 0, 1}, {0, 3, 1}, {0, 0, 4}, {3, 0, 3}, {0, 1, 3},
            {Integer.MAX_VALUE, 0, 1}, {1, 0, Integer.MAX_VALUE}, {0, Integer.MAX_VALUE, Integer.MAX_VALUE}};
        for (int[] p : places) {
            due("shift(0, " + p[0] + ", 1, " + p[1] + ", " + p[2] + ")", x.shift(0, p[0], 1, p[1], p[2]), -13);
        }
        due("nothing changed", x.element(1, 2), 9);
    }

    private static void promise39() {
        OwedDays x = new OwedDays();
        int[][] under = {{0}, {0, 1}, {0, 2}, {0, 2, 3}, {0, 1, 4}, {0, 2, 3, 5}, {0, 6}, {0, 1, 4, 7}};
        for (int kind = 0; kind < 8; kind++) {
            x.body(kind);
            x.keep(0, kind);
            for (int k = 0; k < 8; k++) {
                int want = -12;
                for (int above : under[kind]) {
                    want = above == k ? kind : want;
                }
                due("KIND " + kind + " taken for " + k, x.taken(0, k), want);
            }
        }
        due("KIND 8", x.taken(0, 8), BAD);
        due("KIND -1", x.taken(0, -1), BAD);
        due("shelf 6", x.taken(6, 0), BAD);
        due("shelf -1", x.taken(-1, 0), BAD);
        due("nothing", x.taken(1, 0), -11);
        x.row(1, 0, 1);
        due("a ROW", x.taken(1, 0), -12);
    }

    private static void promise40() {
        OwedDays x = withPeople(1, 1, 1);
        x.debt(1, 112);
        x.debt(12, 112);
        x.runaway(0);
        x.ask(1, 4);
        x.feed(1);
        x.feed(2);
        x.mend(0, 0, 9);
        x.mend(0, 0, 9);
        x.body(7);
        x.body(3);
        x.act(0, 3, 1);
        x.go(1, 2);
        int[] counts = {3, 2, 1, 1, 2, 2, 1, 2, 14};
        for (int what = 0; what < 9; what++) {
            due("count(" + what + ")", x.count(what), counts[what]);
        }
        due("count(9)", x.count(9), BAD);
        due("count(-1)", x.count(-1), BAD);
        x.undo();
        due("changes that may be UNDONE", x.count(6), 0);
    }

    // With all that may be there, nothing is looked for behind its end.
    private static void fullHouse() {
        OwedDays x = withPeople(1, 2, 3, 4, 5, 6, 7, 8);
        x.mend(0, 3, 0);
        for (int d = 0; d < 20; d++) {
            x.debt(10 * (d % 8) + (d + 1) % 8, 900 + (d % 3 == 0 ? 12 : 0));
        }
        for (int a = 0; a < 30; a++) {
            x.ask(a % 20, 4 + a % 3);
        }
        for (int b = 0; b < 50; b++) {
            x.body(b % 8);
        }
        due("OPEN ones", x.count(2), 20);
        due("OWES", x.of(7, 11), 18);
        due("is owed", x.of(0, 12), 18);
        due("plan", x.plan(0, 47), 18 * 5 * 8);
        due("ring", x.ring(), NOT);
        due("wiped", x.wiped(), 1);
        due("WAITS", x.waits(), 30);
        due("has", x.has(7, 5), 0);
        due("go", x.go(1, 7), 20);
        due("done", x.waits(), 0);
        due("heir", x.heir(70), 2);
        due("between the two", x.of(7, 2), 0);
        due("runaway", x.runaway(0), 24);
        due("act", x.act(49, 0, 1), 53);
    }

    private static void run(int number) {
        promise = number;
        switch (number) {
            case 1: promise1(); break;
            case 2: promise2(); break;
            case 3: promise3(); break;
            case 4: promise4(); break;
            case 5: promise5(); break;
            case 6: promise6(); break;
            case 7: promise7(); break;
            case 8: promise8(); break;
            case 9: promise9(); break;
            case 10: promise10(); break;
            case 11: promise11(); break;
            case 12: promise12(); break;
            case 13: promise13(); break;
            case 14: promise14(); break;
            case 15: promise15(); break;
            case 16: promise16(); break;
            case 17: promise17(); break;
            case 18: promise18(); break;
            case 19: promise19(); break;
            case 20: promise20(); break;
            case 21: promise21(); break;
            case 22: promise22(); break;
            case 23: promise23(); break;
            case 24: promise24(); break;
            case 25: promise25(); break;
            case 26: promise26(); break;
            case 27: promises27and28(); break;
            case 29: promises29and30(); break;
            case 31: promise31(); break;
            case 32: promises32and33(); break;
            case 34: promise34(); break;
            case 35: promise35(); break;
            case 36: promises36and37(); break;
            case 38: promise38(); break;
            case 39: promise39(); break;
            case 40: promise40(); fullHouse(); break;
            default: break;
        }
    }

    public static void main(String[] args) {
        for (int number = 1; number <= 40; number++) {
            run(number);
        }
        System.out.println("promises 1 to 40: " + checks + " answers looked at, " + wrong + " not as due");
        if (wrong != 0) {
            System.exit(1);
        }
    }
}
