/** Sentences of DOC.md on what is asked in thought: promises 15 to 20. Each call must change nothing. */
final class SentencesOfThought extends Sentences {
    static void all() {
        bestDay();
        plan();
        free();
        ring();
        wiped();
        balance();
    }

    private static void bestDay() {
        sentence(TERMS, "In thought, by DEBTS as they are, nobody ILL: BEST DAY of a DEBT: that from NOW and 3 on (not HOLY)"
            + " on which its work is worth most (of like ones the first); the worth.");
        on(TWO + ", mend 0 3 12, debt 1 100, debt 10 912, ask 0 4, ask 0 5");
        same("bestDay 0 0", 4);
        same("bestDay 0 1", 15);
        same("bestDay 1 1", 45);
        on(TWO + ", debt 1 112, text d=3|d=7|d=11");
        same("bestDay 0 0", 4);
        same("bestDay 0 1", 0);
        on(TWO + ", debt 1 112, text (d<4)*50+(d=9)*40+(d=10)*40+(d=47)*60");
        same("bestDay 0 0", 9);
        same("bestDay 0 1", 40);
        also("go 1 6");
        same("bestDay 0 0", 9);
        also("go 1 1");
        same("bestDay 0 0", 10);
        also("go 1 1");
        same("bestDay 0 0", 12);
        same("bestDay 0 1", 0);
        on(TWO + ", debt 1 112, text d");
        same("bestDay 0 0", 46);
        same("bestDay 0 1", 46);
        also("text 200-d");
        same("bestDay 0 0", 4);
        same("bestDay 0 1", 99);
        also("text 79+d");
        same("bestDay 0 0", 20);
        same("bestDay 0 1", 99);
        also("text d-60");
        same("bestDay 0 0", 4);
        same("bestDay 0 1", 0);
        on(TWO + ", debt 1 112, debt 10 112, text p*d+q*(99-d)");
        same("bestDay 0 0", 4);
        same("bestDay 0 1", 95);
        same("bestDay 1 0", 46);

        sentence(15, "BEST DAY (what 0), its worth (1).");
        on(TWO + ", mend 11 0 9, debt 1 112");
        same("bestDay 0 0", 44);
        same("bestDay 0 1", 27);

        sentence(15, "BAD; STATE: it is not OPEN; NOT: no such DAY.");
        on(TWO + ", debt 1 112, debt 10 112, runaway 1");
        String[] bad = {"2 0", "-1 0", "20 0", "MAX 0", "MIN 1", "0 2", "0 -1", "0 MAX", "0 MIN", "1 2", "2 2"};
        for (String b : bad) {
            refused("bestDay " + b, BAD);
        }
        refused("bestDay 1 0", STATE);
        refused("bestDay 1 1", STATE);
        also("go 1 43");
        same("bestDay 0 0", 46);
        refused("bestDay 1 0", STATE);
        for (int now = 44; now <= 48; now++) {
            also("go 1 1");
            refused("bestDay 0 0", NOT);
            refused("bestDay 0 1", NOT);
            refused("bestDay 1 0", STATE);
            refused("bestDay 1 1", STATE);
            refused("bestDay 2 0", BAD);
            refused("bestDay 0 2", BAD);
        }
    }

    private static void plan() {
        sentence(TERMS, "PLAN of one who is owed: of all DEBTS to it, DAY by DAY as it likes, nobody working twice on one DAY"
            + " (ASKS by others do not matter), each DEBT as long as it is OPEN: the most that all together can be worth"
            + " from NOW and 3 to DAY t: the sum over who owes, each by itself: its best DAYS, as many as it OWES,"
            + " whatever the KIND (halves do not matter).");
        on("person 3, person 9, person 2, mend 0 3 12, mend 0 0 9, debt 1 312, debt 1 200, debt 21 911, debt 12 911, debt 2 112, text d*s,"
            + " ask 4 4, ask 0 4");
        int[][] plans = {{0, 0}, {3, 0}, {4, 12 + 8}, {5, 27 + 18}, {6, 45 + 30}, {7, 45 + 30},
            {10, 3 * (10 + 9 + 8 + 6 + 5) + 2 * (10 + 9 + 8 + 6 + 5 + 4)}};
        for (int[] p : plans) {
            same("plan 1 " + p[0], p[1]);
        }
        same("plan 2 4", 36 + 12);
        same("plan 0 47", 0);
        also("go 1 3");
        same("plan 1 5", 0);
        same("plan 1 6", 30);
        also("runaway 0");
        same("plan 1 6", 12);
        on("person 9, person 9, 8* debt 1 912, text 99");
        same("plan 1 47", 33 * 99);
        same("plan 1 46", 33 * 99);
        same("plan 1 45", 32 * 99);
        also("text 1");
        same("plan 1 47", 33);
        also("text 0");
        same("plan 1 47", 0);
        also("text d>20");
        same("plan 1 47", 20);
        on(TWO + ", mend 0 3 0, mend 0 0 9, debt 1 100, ask 0 4, go 1 5");
        same("of 0 4", 1);
        same("plan 1 47", 15);
        same("plan 1 7", 0);
        same("plan 1 8", 15);
        on(TWO + ", debt 1 212, text (d=4)*7+(d=6)*9+(d=8)*9+(d=7)*50");
        same("plan 1 4", 7);
        same("plan 1 5", 7);
        same("plan 1 6", 16);
        same("plan 1 7", 16);
        same("plan 1 8", 18);
        on(TWO + ", debt 1 312, text d");
        due("plan 1 47", 46 + 45 + 44);
        due("plan 1 6", 15);
        due("plan 1 4", 4);
        due("plan 1 47", 46 + 45 + 44);

        sentence(16, "PLAN till DAY t.");
        on("8* person 9, mend 11 0 9");
        for (int p = 1; p < 8; p++) {
            also("debt " + 10 * p + " 912");
        }
        same("plan 0 47", 7 * (3 * 81 + 6 * 45));
        same("plan 0 44", 7 * (81 + 8 * 45));
        same("plan 7 47", 0);
        same("plan 0 0", 0);
        sentence(16, "BAD.");
        on(TWO + ", debt 1 912");
        String[] bad = {"2 4", "-1 4", "8 4", "MAX 4", "MIN 4", "1 48", "1 -1", "1 MAX", "1 MIN", "2 48"};
        for (String b : bad) {
            refused("plan " + b, BAD);
        }
    }

    private static void free() {
        sentence(TERMS, "FREE: how many more days one may promise so that it can still work all off by DAY t:"
            + " DAYS from NOW and 3 to t that are not HOLY less all that it OWES (below 0: it can't).");
        on(TWO + ", person 5");
        int[][] free = {{0, 0}, {3, 0}, {4, 1}, {5, 2}, {6, 3}, {7, 3}, {8, 4}, {46, 33}, {47, 33}};
        for (int[] f : free) {
            same("free 0 " + f[0], f[1]);
        }
        also("debt 1 512, debt 2 200, debt 10 912");
        for (int[] f : free) {
            same("free 0 " + f[0], f[1] - 7);
            same("free 2 " + f[0], f[1]);
        }
        also("go 1 4");
        same("free 2 6", 0);
        same("free 2 7", 0);
        same("free 2 8", 1);
        same("free 2 47", 30);
        also("go 1 39");
        same("free 2 46", 1);
        also("go 1 1");
        same("free 2 47", 0);
        also("go 1 4");
        same("free 2 47", 0);
        same("free 0 47", -7);
        also("runaway 0");
        same("free 0 47", 0);

        sentence(17, "FREE till DAY t.");
        on("person 1, person 1, 20* debt 1 912");
        same("free 0 47", 33 - 180);
        same("free 0 0", -180);
        same("free 1 47", 33);
        sentence(17, "VOID: BAD.");
        on(TWO + ", debt 1 912");
        String[] bad = {"2 4", "-1 4", "8 4", "MAX 4", "MIN 4", "1 48", "1 -1", "1 MAX", "1 MIN", "2 48"};
        for (String b : bad) {
            refused("free " + b, VOID);
        }
    }

    private static void ring() {
        sentence(TERMS, "RING: the least set of OPEN DEBTS (bits; at most 5) of one KIND, by fewest, then least bits, that go round:"
            + " each one's who is owed is the next one's who OWES, back to the first, nobody twice;");
        on("8* person 1, debt 1 112, debt 12 112, debt 23 112, debt 34 112, debt 45 112, debt 50 112");
        refused("ring", NOT);
        also("debt 40 112");
        same("ring", 1 + 2 + 4 + 8 + 64);
        also("debt 30 112");
        same("ring", 1 + 2 + 4 + 128);
        also("debt 53 112");
        same("ring", 8 + 16 + 256);
        also("debt 54 112");
        same("ring", 16 + 512);
        on("person 1, person 1, person 1, debt 1 112, debt 12 112, debt 20 111, debt 10 100");
        refused("ring", NOT);
        also("debt 20 112");
        same("ring", 1 + 2 + 16);
        also("debt 1 100");
        same("ring", 8 + 32);
        on("person 1, person 1, person 1, debt 1 112, debt 2 112, debt 20 112, debt 10 112");
        same("ring", 2 + 4);
        on("person 1, person 1, person 1, debt 1 112, debt 10 111, debt 1 111, debt 10 112");
        same("ring", 2 + 4);
        on("person 1, person 1, debt 1 112, debt 10 112, debt 1 112, debt 10 112");
        same("ring", 1 + 2);
        on("person 1, person 1, person 1, debt 1 112, debt 10 112, debt 12 112, debt 21 112, runaway 0");
        same("ring", 4 + 8);
        also("runaway 1");
        refused("ring", NOT);
        on("8* person 1, debt 67 100, 17* debt 1 112, debt 76 111, debt 76 100");
        same("ring", 1 + (1 << 19));
        on("8* person 1, 18* debt 1 112, debt 67 100, debt 76 100");
        same("ring", (1 << 18) + (1 << 19));
        on("8* person 1, debt 21 112, debt 32 112, debt 13 112, debt 65 112, debt 76 112, debt 57 112");
        same("ring", 1 + 2 + 4);

        sentence(18, "RING, as bits.");
        on("person 1, person 1, debt 10 400, debt 1 500");
        same("ring", 3);
        sentence(18, "NOT.");
        refused("ring", NOT);
        on("person 1, person 1, 20* debt 1 112");
        refused("ring", NOT);
    }

    private static void wiped() {
        sentence(TERMS, "WIPED: how few DEBTS (of KIND 12, each of as many DAYS as one likes, whoever they are between)"
            + " could stand in place of all OPEN ones of KIND 12, so that nobody is owed more or less in all.");
        on("8* person 1, debt 1 311");
        same("wiped", 0);
        also("debt 1 312");
        same("wiped", 1);
        also("debt 12 312");
        same("wiped", 1);
        also("debt 20 312");
        same("wiped", 0);
        also("debt 34 512, debt 35 212");
        same("wiped", 2);
        also("debt 67 212");
        same("wiped", 3);
        also("debt 50 212");
        same("wiped", 3);
        also("runaway 3");
        same("wiped", 2);
        on("8* person 1, debt 1 112, debt 2 212, debt 3 312, debt 4 412, debt 5 512, debt 6 612, debt 7 712");
        same("wiped", 7);
        on("8* person 1, debt 1 112, debt 23 112, debt 45 112, debt 67 112");
        same("wiped", 4);
        on("8* person 1, debt 1 112, debt 12 112, debt 23 112, debt 34 112, debt 45 112, debt 56 112, debt 67 112");
        same("wiped", 1);
        on("6* person 1, debt 1 512, debt 20 312, debt 32 412, debt 34 312, debt 53 112");
        same("wiped", 4);
        on("person 1, person 1, 20* debt 1 912");
        same("wiped", 1);
        on("4* person 1, debt 1 112");
        due("wiped", 1);
        due("debt 23 112", 1);
        due("wiped", 2);
        due("debt 10 112", 2);
        due("wiped", 1);
        due("wiped", 1);
        due("debt 32 112", 3);
        due("wiped", 0);

        sentence(19, "WIPED.");
        same("wiped", 0);
        on("8* person 1");
        same("wiped", 0);
        on("4* person 1, debt 2 412, debt 3 212, debt 13 212");
        same("wiped", 3);
        also("debt 12 212");
        same("wiped", 2);
    }

    private static void balance() {
        sentence(TERMS, "BALANCE of one: what it is owed less what it OWES, DAYS of all OPEN DEBTS.");
        on("person 1, person 1, person 1, debt 1 312, debt 10 100, debt 20 911, debt 12 212");
        same("balance 0", 7);
        same("balance 1", 0);
        same("balance 2", -7);
        also("runaway 2");
        same("balance 0", -2);
        same("balance 2", 2);
        sentence(20, "BALANCE.");
        on("person 1, person 1, 20* debt 1 912");
        same("balance 0", -180);
        same("balance 1", 180);
        on("person 1");
        same("balance 0", 0);
        sentence(20, "VOID: BAD.");
        refused("balance 0", VOID);
        on(TWO + ", debt 1 912");
        String[] bad = {"2", "-1", "8", "MAX", "MIN"};
        for (String b : bad) {
            refused("balance " + b, VOID);
        }
    }
}
