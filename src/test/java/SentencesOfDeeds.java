/** Sentences of DOC.md on what is done with debts in deed: promises 21 to 24. */
final class SentencesOfDeeds extends Sentences {
    private static final String HALVES = "person 1, person 1, person 1, mend 0 3 0, mend 0 0 9, debt 1 200, debt 12 200, ask 0 4, ask 1 5";

    static void all() {
        handedOn();
        struck();
        runaway();
        heir();
        hand();
        strike();
    }

    private static void ofDebt(int debt, int owes, int whom, int days, int kind, int nick) {
        int[] told = {owes, whom, days, kind, nick};
        for (int what = 0; what < 5; what++) {
            same("of " + debt + " " + what, told[what]);
        }
    }

    private static void handedOn() {
        sentence(TERMS, "HANDED ON: DEBTS a (p owes q) and b (q owes r) of one KIND with as many DAYS left and like NICKS, r not p:"
            + " a becomes p owes r, b none (both change at once; in deed).");
        on("4* person 1, debt 1 312, debt 12 312, debt 12 212, debt 12 412, debt 12 311, debt 10 312, debt 23 312, debt 32 312");
        refused("hand 2", NOT);
        refused("hand 3", NOT);
        refused("hand 4", NOT);
        refused("hand 5", NOT);
        refused("hand 500", NOT);
        refused("hand 6", NOT);
        refused("hand 100", NOT);
        refused("hand 0", NOT);
        refused("hand 101", NOT);
        refused("hand 607", NOT);
        due("hand 1", 1);
        ofDebt(0, 0, 2, 3, 12, 0);
        ofDebt(1, 1, 2, 0, 12, 0);
        refused("hand 1", NOT);
        refused("hand 501", NOT);
        due("hand 6", 1);
        ofDebt(0, 0, 3, 3, 12, 0);
        ofDebt(6, 2, 3, 0, 12, 0);
        due("hand 7", 1);
        ofDebt(0, 0, 2, 3, 12, 0);
        same("count 1", 8);
        on("4* person 1, debt 1 300, debt 12 300, ask 0 4, ask 1 5");
        due("hand 1", 1);
        same("has 0 4", 2);
        refused("has 1 5", NOT);
        same("waits", 2);
        on(HALVES + ", go 1 5");
        ofDebt(0, 0, 1, 2, 0, 1);
        refused("hand 1", NOT);
        also("go 1 1");
        due("hand 1", 1);
        ofDebt(0, 0, 2, 2, 0, 1);
        ofDebt(1, 1, 2, 0, 0, 0);
        on("8* person 1, debt 1 911, debt 17 911");
        due("hand 1", 1);
        ofDebt(0, 0, 7, 9, 11, 0);
    }

    private static void hand() {
        sentence(21, "HANDED ON (ab: 100 times DEBT a and b): 1.");
        on("8* person 1, 18* debt 1 112, debt 67 512, debt 56 512");
        refused("hand 1819", NOT);
        due("hand 1918", 1);
        ofDebt(19, 5, 7, 5, 12, 0);
        ofDebt(18, 6, 7, 0, 12, 0);

        sentence(21, "BAD; NOT: they are not so (both OPEN).");
        on("person 1, person 1, person 1, debt 1 112, debt 12 112, debt 12 112");
        String[] bad = {"-1", "-100", "3", "300", "303", "99", "20", "2000", "2019", "10000", "100000", "MAX", "MIN"};
        for (String ab : bad) {
            refused("hand " + ab, BAD);
        }
        refused("hand 102", NOT);
        refused("hand 202", NOT);
        also("runaway 0");
        refused("hand 1", NOT);
        on("person 1, person 1, person 1, debt 1 112, debt 12 112, runaway 1");
        refused("hand 1", NOT);
        also("runaway 0");
        refused("hand 1", NOT);
    }

    private static void struck() {
        sentence(TERMS, "STRUCK: each has as many DAYS less as the least of them has.");
        on("person 1, person 1, person 1, debt 1 312, debt 12 912, debt 20 212, debt 20 112");
        same("ring", 7);
        due("strike", 2);
        ofDebt(0, 0, 1, 1, 12, 0);
        ofDebt(1, 1, 2, 7, 12, 0);
        ofDebt(2, 2, 0, 0, 12, 0);
        ofDebt(3, 2, 0, 1, 12, 0);
        due("strike", 1);
        ofDebt(0, 0, 1, 0, 12, 0);
        ofDebt(1, 1, 2, 6, 12, 0);
        ofDebt(3, 2, 0, 0, 12, 0);
        refused("strike", NOT);
        on("5* person 1, debt 1 911, debt 12 911, debt 23 911, debt 34 911, debt 40 911");
        due("strike", 9);
        same("count 2", 0);
        on("person 1, person 1, mend 0 3 0, mend 0 0 9, debt 1 200, debt 10 300, ask 0 4, ask 1 4, go 1 5");
        same("of 0 4", 1);
        due("strike", 2);
        ofDebt(0, 0, 1, 0, 0, 0);
        ofDebt(1, 1, 0, 1, 0, 1);

        sentence(TERMS, "NOT.");
        refused("ring", NOT);
        refused("strike", NOT);
        on("person 1, person 1, debt 1 111, debt 10 112");
        refused("ring", NOT);
        refused("strike", NOT);
    }

    private static void strike() {
        sentence(22, "RING is STRUCK: by how many DAYS each.");
        on("person 1, person 1, debt 1 712, debt 10 912, debt 10 400");
        due("strike", 7);
        same("of 0 2", 0);
        same("of 1 2", 2);
        same("of 2 2", 4);
        sentence(22, "NOT.");
        refused("strike", NOT);
        on("6* person 1, debt 1 112, debt 12 112, debt 23 112, debt 34 112, debt 45 112, debt 50 112");
        refused("strike", NOT);
    }

    private static void runaway() {
        sentence(TERMS, "RUNAWAY: one goes: all DEBTS by which it OWES have no DAYS left (those to it stay): the sum of DAYS.");
        on("person 1, person 1, person 1, debt 1 312, debt 2 500, debt 10 900, debt 12 400");
        due("runaway 0", 8);
        ofDebt(0, 0, 1, 0, 12, 0);
        ofDebt(1, 0, 2, 0, 0, 0);
        ofDebt(2, 1, 0, 9, 0, 0);
        ofDebt(3, 1, 2, 4, 0, 0);
        same("runaway 0", 0);
        same("runaway 2", 0);
        due("runaway 1", 13);
        same("count 2", 0);
        on("person 1, person 1, 20* debt 10 912");
        due("runaway 1", 180);
        on(HALVES + ", go 1 5");
        due("runaway 0", 2);
        ofDebt(0, 0, 1, 0, 0, 0);

        sentence(23, "RUNAWAY: the sum.");
        on("person 1, person 1, debt 1 212, debt 1 111, person 1");
        due("runaway 0", 3);
        same("runaway 0", 0);
        same("count 0", 3);
        sentence(23, "BAD.");
        on("person 1, person 1, debt 1 212");
        String[] bad = {"2", "-1", "8", "MAX", "MIN"};
        for (String b : bad) {
            refused("runaway " + b, BAD);
        }
    }

    private static void heir() {
        String four = "4* person 1, debt 1 312, debt 2 500, debt 20 911, debt 10 400, debt 12 400, debt 3 100, debt 23 112";
        sentence(TERMS, "HEIR: OPEN DEBTS from and to one are another one's then (those between the two have no DAYS left).");
        on(four + ", runaway 3");
        due("heir 1", 3);
        ofDebt(0, 0, 1, 0, 12, 0);
        ofDebt(1, 1, 2, 5, 0, 0);
        ofDebt(2, 2, 1, 9, 11, 0);
        ofDebt(3, 1, 0, 0, 0, 0);
        ofDebt(4, 1, 2, 4, 0, 0);
        ofDebt(5, 1, 3, 1, 0, 0);
        ofDebt(6, 2, 3, 1, 12, 0);
        same("heir 1", 0);
        same("heir 3", 0);
        due("heir 12", 1);
        ofDebt(1, 1, 2, 0, 0, 0);
        ofDebt(5, 2, 3, 1, 0, 0);
        on("person 1, person 1, person 1, debt 2 312, debt 20 200, runaway 0");
        due("heir 1", 1);
        ofDebt(0, 0, 2, 0, 12, 0);
        ofDebt(1, 2, 1, 2, 0, 0);
        on(HALVES + ", go 1 5");
        due("heir 2", 1);
        ofDebt(0, 2, 1, 2, 0, 1);
        on(HALVES + ", debt 20 300, go 1 6");
        due("heir 2", 1);
        ofDebt(0, 2, 1, 2, 0, 1);
        ofDebt(2, 2, 0, 0, 0, 0);
        due("heir 21", 0);
        ofDebt(0, 2, 1, 0, 0, 0);

        sentence(TERMS, "(In deed; ASKS stay.)");
        on(four + ", mend 0 3 0, ask 1 4, ask 0 5, ask 4 6");
        due("heir 3", 4);
        same("count 3", 3);
        same("waits", 3);
        same("of 0 40", 1);
        same("has 3 4", 2);
        same("has 3 5", 1);
        same("has 1 6", 2);
        refused("has 0 4", NOT);
        due("runaway 3", 8);
        same("count 3", 3);
        same("waits", 3);
        refused("has 3 4", NOT);
        due("go 1 7", 1);
        same("led 61 1", 4);

        sentence(24, "HEIR (pq: of p, q is it): how many DEBTS are another one's.");
        on("8* person 1, debt 76 112, debt 57 112, debt 75 112");
        due("heir 76", 2);
        ofDebt(0, 7, 6, 0, 12, 0);
        ofDebt(1, 5, 6, 1, 12, 0);
        ofDebt(2, 6, 5, 1, 12, 0);
        on("8* person 1, 19* debt 1 112, debt 10 112");
        due("heir 7", 20);
        same("of 17 30", 1);
        same("of 71 30", 19);

        sentence(24, "BAD (one and the same).");
        on("person 1, person 1, person 1, debt 1 112");
        String[] bad = {"0", "11", "22", "3", "30", "33", "-1", "-10", "100", "MAX", "MIN"};
        for (String b : bad) {
            refused("heir " + b, BAD);
        }
    }
}
