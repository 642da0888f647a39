/** Sentences of DOC.md on people, days, months, debts and settings: the Terms' first part, promises 1 to 6. */
final class SentencesOfPeople extends Sentences {
    static void all() {
        termsOfPeopleAndDays();
        termsOfDebts();
        termsOfWork();
        aNewObject();
        person();
        debt();
        debts();
        mend();
        of();
    }

    private static void termsOfPeopleAndDays() {
        sentence(TERMS, "PEOPLE 0 .. 7, as they come: SKILL (1 .. 9).");
        for (int p = 0; p < 8; p++) {
            due("person " + (p == 0 ? 1 : p == 7 ? 9 : p + 1), p);
        }
        same("of 0 10", 1);
        same("of 7 10", 9);
        refused("of 8 10", VOID);
        refused("of -1 10", VOID);
        refused("person 5", FULL);
        on("person 4");
        refused("person 0", BAD);
        refused("person 10", BAD);
        refused("mend 1 1 5", BAD);

        sentence(TERMS, "DAYS 0 .. 47; NOW is 0 at first.");
        on(TWO);
        same("count 4", 0);
        same("worth 1 0", 15);
        same("worth 1 47", 15);
        refused("worth 1 -1", BAD);
        refused("worth 1 48", BAD);
        due("go 1 48", 0);
        same("count 4", 48);
        same("worth 1 47", 15);
        refused("worth 1 48", BAD);
        refused("led 480 0", BAD);

        sentence(TERMS, "MONTHS 0 .. 11 (DAY by 4, cut): LIGHT (1 .. 9 hours; 5 at first).");
        on("person 1, person 1, mend 0 0 1, mend 1 0 2, mend 11 0 9");
        int[][] light = {{0, 1}, {3, 1}, {4, 2}, {7, 2}, {8, 5}, {43, 5}, {44, 9}, {47, 9}};
        for (int[] day : light) {
            same("worth 1 " + day[0], day[1]);
        }
        refused("of 12 20", VOID);
        refused("of -1 20", VOID);
        refused("mend 0 0 0", BAD);
        refused("mend 0 0 10", BAD);
        refused("mend 12 0 5", BAD);
        on("");
        for (int month = 0; month < 12; month++) {
            same("of " + month + " 20", 5);
        }

        sentence(TERMS, "HOLY: each DAY that leaves 3 by 4 (nobody works then).");
        for (int day = 3; day < 48; day++) {
            on("person 3, person 9, debt 1 112");
            if (day % 4 == 3) {
                refused("ask 0 " + day, BAD);
            } else {
                due("ask 0 " + day, 0);
            }
        }
        on("person 3, person 9, mend 0 3 0, debt 1 912, ask 0 6, ask 0 8, go 1 9");
        same("led 60 0", 1);
        same("led 70 0", NOT);
        same("led 80 0", 1);
    }

    private static void termsOfDebts() {
        sentence(TERMS, "DEBTS 0 .. 19, as they come: who OWES, to whom (unlike), how many DAYS (1 .. 9), of which KIND:"
            + " a MONTH (0 .. 11: days as long as those) or 12: any day counts 1.");
        on("person 1, person 2, person 3");
        due("debt 2 100", 0);
        due("debt 20 911", 1);
        due("debt 12 512", 2);
        int[][] debts = {{0, 2, 1, 0, 0}, {2, 0, 9, 11, 0}, {1, 2, 5, 12, 0}};
        for (int d = 0; d < 3; d++) {
            for (int what = 0; what < 5; what++) {
                same("of " + d + " " + what, debts[d][what]);
            }
        }
        refused("debt 11 112", BAD);
        refused("debt 0 112", BAD);
        refused("debt 1 12", BAD);
        refused("debt 1 1012", BAD);
        refused("debt 1 113", BAD);
        refused("of 3 0", VOID);
        also("17* debt 1 112");
        same("of 19 2", 1);
        refused("of 20 2", VOID);
        refused("debt 1 112", FULL);

        sentence(TERMS, "A DEBT is OPEN as long as DAYS of it are left.");
        on(TWO + ", mend 0 3 0, debt 1 112, debt 1 212, ask 0 4, ask 1 5, ask 1 6");
        same("count 2", 2);
        also("go 1 5");
        same("of 0 2", 0);
        same("count 2", 1);
        refused("ask 0 9", STATE);
        refused("bestDay 0 0", STATE);
        also("go 1 1");
        same("of 1 2", 1);
        same("count 2", 1);
        due("ask 1 9", 3);
        due("go 1 1", 1);
        same("count 2", 0);
        same("count 1", 2);
        refused("ask 1 10", STATE);

        sentence(TERMS, "OWED between two: the sum of DAYS left.");
        on("person 1, person 1, person 1, mend 0 3 0, mend 0 0 9, debt 1 300, debt 1 912, debt 10 412, debt 2 811, debt 1 112");
        same("of 1 30", 13);
        same("of 10 30", 4);
        same("of 12 30", 0);
        also("ask 0 4, ask 4 5, go 1 5");
        same("of 0 4", 1);
        same("of 1 30", 13);
        also("go 1 1");
        same("of 1 30", 12);
        also("runaway 0");
        same("of 1 30", 0);
        refused("of 11 30", VOID);
        String all = "8* person 1";
        for (int d = 0; d < 20; d++) {
            all += ", debt " + (7 - d % 8) + (d % 8 < 4 ? d % 3 : 5 + d % 3) + " " + (100 * (d % 9 + 1) + d % 13);
        }
        on(all);
        int[][] owed = new int[8][8];
        for (int d = 0; d < 20; d++) {
            if (7 - d % 8 != (d % 8 < 4 ? d % 3 : 5 + d % 3)) {
                owed[7 - d % 8][d % 8 < 4 ? d % 3 : 5 + d % 3] += d % 9 + 1;
            }
        }
        for (int p = 0; p < 8; p++) {
            for (int q = 0; q < 8; q++) {
                same("of " + p + q + " 30", p == q ? VOID : owed[p][q]);
            }
        }
    }

    private static void termsOfWork() {
        sentence(TERMS, "WORKED OFF: a day's work on a DEBT: DAYS left are 1 less, if the KIND is 12,"
            + " or LIGHT of its MONTH is no more than that of the DAY's;");
        for (int light = 1; light <= 9; light++) {
            on(TWO + ", mend 0 3 0, mend 3 0 " + light + ", debt 1 203, ask 0 4, go 1 5");
            same("of 0 2", light <= 5 ? 1 : 2);
            same("of 0 4", light <= 5 ? 0 : 1);
        }
        on(TWO + ", mend 0 3 0, mend 1 0 1, debt 1 212, ask 0 4, go 1 5");
        same("of 0 2", 1);
        for (int day = 4; day < 12; day++) {
            on(TWO + ", mend 0 3 0, mend 1 0 4, mend 2 0 6, debt 1 200, debt 1 203, ask 0 " + day + ", go 1 " + (day + 1));
            same("of 0 2", day < 8 || day == 11 ? 2 : 1);
            same("of 0 4", day < 7 ? 1 : 0);
        }
        on(TWO + ", mend 0 3 0, mend 1 0 1, debt 1 201, ask 0 4, go 1 5");
        same("of 0 2", 1);

        sentence(TERMS, "else it is half a day: two halves are one (NICK: a half is kept at the DEBT; 0 at first, and as no DAYS are left).");
        on(TWO + ", mend 0 3 0, mend 0 0 9, debt 1 200, ask 0 4, ask 0 5, ask 0 6, ask 0 8, ask 0 9, go 1 4");
        int[][] left = {{1, 2, 1}, {1, 1, 0}, {1, 1, 1}, {0, 1, 1}, {1, 0, 0}};
        for (int[] after : left) {
            due("go 1 1", after[0]);
            same("of 0 2", after[1]);
            same("of 0 4", after[2]);
        }
        same("of 0 13", 0);
        same("of 1 13", 60);
        on(TWO + ", debt 1 100");
        same("of 0 4", 0);
        on(TWO + ", mend 0 3 0, mend 0 0 9, debt 1 100, ask 0 4, ask 0 5, go 1 5, mend 0 0 5");
        same("of 0 4", 1);
        also("go 1 1");
        same("of 0 2", 0);
        same("of 0 4", 0);
        on(TWO + ", mend 0 3 0, mend 0 0 9, debt 1 200, ask 0 4, ask 0 5, go 1 5, mend 0 0 5, go 1 1");
        same("of 0 2", 1);
        same("of 0 4", 1);
    }

    private static void aNewObject() {
        sentence(1, "Nobody owes.");
        for (int what = 0; what <= 8; what++) {
            same("count " + what, 0);
        }
        refused("ring", NOT);
        refused("strike", NOT);
        same("wiped", 0);
        same("waits", 0);
        refused("back", STATE);
        refused("undo", STATE);
        refused("redo", STATE);
        refused("trace 0", BAD);
        refused("of 0 0", VOID);
        refused("of 0 10", VOID);
        refused("of 0 40", VOID);
        same("of 0 50", 0);
        same("of 0 51", 1);
        for (int shelf = 0; shelf < 6; shelf++) {
            refused("taken " + shelf + " 0", NOTHING);
        }
        on("person 1, person 2");
        same("worth 1 0", 5);
        same("of 1 30", 0);
    }

    private static void person() {
        sentence(2, "A PERSON: the number.");
        due("person 5", 0);
        due("person 5", 1);
        due("person 6", 2);
        same("count 0", 3);
        sentence(2, "BAD, FULL: 8.");
        int[] bad = {0, 10, -1, Integer.MIN_VALUE, Integer.MAX_VALUE};
        for (int skill : bad) {
            on("person 3");
            refused("person " + skill, BAD);
        }
        on("7* person 2");
        due("person 1", 7);
        refused("person 1", FULL);
        refused("person 9", FULL);
        refused("person 0", BAD);
        refused("person 10", BAD);
    }

    private static void debt() {
        sentence(3, "A DEBT (pq: who OWES, to whom; dk: 100 DAYS and KIND): its number.");
        on("8* person 1");
        due("debt 7 101", 0);
        due("debt 70 912", 1);
        due("debt 76 200", 2);
        same("of 0 0", 0);
        same("of 0 1", 7);
        same("of 1 0", 7);
        same("of 1 1", 0);
        same("of 2 0", 7);
        same("of 2 1", 6);
        same("of 0 2", 1);
        same("of 0 3", 1);
        same("of 1 2", 9);
        same("of 1 3", 12);
        same("of 2 3", 0);
        refused("debt 8 112", BAD);
        refused("debt 80 112", BAD);
        refused("debt 9 112", BAD);
        refused("debt 78 112", BAD);
        refused("debt 87 112", BAD);
        refused("debt 100 112", BAD);

        sentence(3, "BAD, FULL: 20.");
        on("person 1, person 1, person 1");
        int[] pairs = {-1, -10, 0, 11, 22, 3, 30, 23, 32, 100, 101, 1001, Integer.MAX_VALUE, Integer.MIN_VALUE};
        for (int pq : pairs) {
            refused("debt " + pq + " 112", BAD);
        }
        int[] days = {0, 12, 99, 113, 199, 913, 999, 1000, 1012, 10012, -1, -100, -112, Integer.MAX_VALUE, Integer.MIN_VALUE};
        for (int dk : days) {
            refused("debt 1 " + dk, BAD);
        }
        also("19* debt 1 112");
        due("debt 21 911", 19);
        refused("debt 21 911", FULL);
        refused("debt 21 913", BAD);
        refused("debt 22 911", BAD);
        also("runaway 0, runaway 2");
        same("count 2", 0);
        refused("debt 21 911", FULL);
    }

    private static void debts() {
        sentence(TERMS, "DEBTS FROM A ROW of bytes, from a place on: by fours who OWES, to whom, DAYS, KIND: n of them;");
        on("person 1, person 2, person 3, fill 0 0 7 7 0 1 3 12 2 1 9 0 1 2 4 5");
        due("debts 0 2 2", 2);
        int[][] came = {{0, 1, 3, 12, 0}, {2, 1, 9, 0, 0}};
        for (int d = 0; d < 2; d++) {
            for (int what = 0; what < 5; what++) {
                same("of " + d + " " + what, came[d][what]);
            }
        }
        same("count 1", 2);

        sentence(TERMS, "it ends where the row is missing, ends (within a four, too), one is not so, or DEBTS are FULL: those ahead came.");
        on("person 1, person 2, person 3");
        same("debts 0 0 3", 0);
        on("person 1, person 2, row 0 0 0");
        same("debts 0 0 1", 0);
        on("person 1, person 2, person 3, fill 0 0 0 1 3 12 2 1 9 0");
        same("debts 0 8 1", 0);
        same("debts 0 9 15", 0);
        same("debts 0 60 1", 0);
        same("debts 0 MAX 15", 0);
        same("debts 0 2147483644 2", 0);
        same("debts 0 -1 1", 0);
        same("debts 0 -4 2", 0);
        same("debts 0 MIN 15", 0);
        due("debts 0 0 3", 2);
        same("count 1", 2);
        for (int lacks = 1; lacks <= 3; lacks++) {
            on("person 1, person 2, row 0 0 " + (8 - lacks) + ", put 0 1 1, put 0 2 2, put 0 3 12, put 0 5 1, put 0 6 1");
            due("debts 0 0 2", 1);
            same("count 1", 1);
            same("debts 0 4 1", 0);
        }
        String[] notSo = {"0 0 1 0", "0 3 1 0", "3 0 1 0", "-1 0 1 0", "0 -1 1 0", "0 1 0 0", "0 1 10 0", "0 1 -1 0", "0 1 1 13", "0 1 1 -1"};
        for (String four : notSo) {
            on("person 1, person 2, person 3, fill 0 0 0 1 9 12 " + four + " 1 0 1 0");
            due("debts 0 0 3", 1);
            same("count 1", 1);
            same("debts 0 4 2", 0);
            due("debts 0 8 1", 1);
        }
        on("person 1, person 2, 19* debt 10 112, fill 0 0 0 1 1 11 0 1 2 12");
        due("debts 0 0 2", 1);
        same("of 19 3", 11);
        same("debts 0 0 2", 0);
        same("count 1", 20);

        sentence(4, "DEBTS FROM A ROW on a SHELF, from place i on, n (1 .. 15) of them: how many came.");
        String fifteen = "person 1, person 2, row 5 0 60";
        for (int at = 0; at < 60; at += 4) {
            fifteen += ", put 5 " + (at + 1) + " 1, put 5 " + (at + 2) + " " + (at / 8 + 1) + ", put 5 " + (at + 3) + " 12";
        }
        on(fifteen);
        due("debts 5 0 15", 15);
        same("count 1", 15);
        same("of 14 2", 8);
        on(fifteen);
        due("debts 5 4 14", 14);
        on(fifteen);
        due("debts 5 4 15", 14);
        on(fifteen);
        due("debts 5 56 1", 1);
        same("of 0 2", 8);
        same("debts 5 57 1", 0);
        refused("debts 5 0 0", BAD);
        refused("debts 5 0 16", BAD);
        refused("debts 5 0 -1", BAD);
        refused("debts 5 0 MAX", BAD);
        refused("debts 5 0 MIN", BAD);

        sentence(4, "BAD, -12 (no ROW of bytes; a SHELF that holds nothing is missing).");
        on("person 1, person 2, body 0, keep 1 0");
        refused("debts 6 0 1", BAD);
        refused("debts -1 0 1", BAD);
        refused("debts MAX 0 1", BAD);
        refused("debts 1 0 1", OTHER);
        same("debts 0 0 1", 0);
        refused("debts 0 0 16", BAD);
        refused("debts 1 0 16", BAD);
        for (int sort = 1; sort < 5; sort++) {
            on("person 1, person 2, row 0 " + sort + " 8, put 0 1 1, put 0 2 1");
            refused("debts 0 0 1", OTHER);
            refused("debts 0 60 1", OTHER);
            refused("debts 0 0 0", BAD);
        }
    }

    private static void mend() {
        sentence(5, "LIGHT of a MONTH (what 0; 1 .. 9), SKILL of a PERSON (1; 1 .. 9), RULE (2; number 0; 0 .. 2),"
            + " ILL (3; number 0; 0 .. 12) becomes v: what it was.");
        on(TWO);
        int[][] mended = {{0, 0, 1, 5}, {0, 0, 9, 1}, {11, 0, 9, 5}, {11, 0, 1, 9}, {0, 1, 1, 3}, {1, 1, 1, 9}, {1, 1, 9, 1}, {0, 2, 2, 0},
            {0, 2, 0, 2}, {0, 2, 1, 0}, {0, 3, 12, 1}, {0, 3, 0, 12}, {0, 3, 0, 0}};
        int[] told = {20, 10, 50, 51};
        for (int[] m : mended) {
            due("mend " + m[0] + " " + m[1] + " " + m[2], m[3]);
            same("of " + m[0] + " " + told[m[1]], m[2]);
        }
        sentence(5, "BAD.");
        on(TWO + ", mend 0 0 4, undo");
        int[][] bad = {{12, 0, 1}, {-1, 0, 1}, {0, 0, 0}, {0, 0, 10}, {0, 0, -1}, {2, 1, 1}, {-1, 1, 1}, {0, 1, 0}, {0, 1, 10}, {1, 2, 1},
            {-1, 2, 1}, {0, 2, 3}, {0, 2, -1}, {1, 3, 1}, {-1, 3, 1}, {0, 3, 13}, {0, 3, -1}, {0, 4, 1}, {0, -1, 1},
            {Integer.MAX_VALUE, 0, 1}, {Integer.MIN_VALUE, 1, 1}, {0, Integer.MAX_VALUE, 1}, {0, 0, Integer.MAX_VALUE},
            {0, 3, Integer.MIN_VALUE}};
        for (int[] b : bad) {
            refused("mend " + b[0] + " " + b[1] + " " + b[2], BAD);
        }
    }

    private static void of() {
        String state = TWO + ", mend 0 3 0, mend 0 0 6, mend 2 0 7, mend 0 2 2, debt 1 200, debt 10 911, ask 0 4, ask 1 5, go 1 5";
        sentence(6, "Of a DEBT: 0 who OWES, 1 to whom, 2 DAYS left, 3 KIND, 4 NICK; of a PERSON: 10 SKILL, 11 all that it OWES,"
            + " 12 all that it is owed, 13 what was GOT; of a MONTH: 20 LIGHT; of pq: 30 OWED; of an ASK: 40 the DEBT, 41 the DAY,"
            + " 42 whether it is done (1, 0); 50 RULE, 51 ILL (number 0).");
        on(state);
        int[][] told = {{0, 0, 0}, {0, 1, 1}, {0, 2, 2}, {0, 3, 0}, {0, 4, 1}, {1, 0, 1}, {1, 1, 0}, {1, 2, 9}, {1, 3, 11}, {1, 4, 0},
            {0, 10, 3}, {1, 10, 9}, {0, 11, 2}, {1, 11, 9}, {0, 12, 9}, {1, 12, 2}, {0, 13, 0}, {1, 13, 15}, {0, 20, 6}, {2, 20, 7},
            {11, 20, 5}, {1, 30, 2}, {10, 30, 9}, {0, 40, 0}, {1, 40, 1}, {0, 41, 4}, {1, 41, 5}, {0, 42, 1}, {1, 42, 0}, {0, 50, 2},
            {0, 51, 0}};
        for (int[] t : told) {
            same("of " + t[0] + " " + t[1], t[2]);
        }
        sentence(6, "VOID: BAD.");
        on(state);
        int[][] none = {{2, 0}, {-1, 0}, {2, 4}, {20, 2}, {0, 5}, {0, 9}, {0, -1}, {2, 10}, {-1, 11}, {8, 12}, {2, 13}, {0, 14}, {0, 19},
            {12, 20}, {-1, 20}, {0, 21}, {0, 29}, {0, 30}, {11, 30}, {2, 30}, {20, 30}, {-1, 30}, {100, 30}, {1, 31}, {0, 39}, {2, 40},
            {-1, 41}, {30, 42}, {0, 43}, {0, 49}, {1, 50}, {-1, 50}, {1, 51}, {-1, 51}, {0, 52}, {Integer.MAX_VALUE, 0},
            {Integer.MIN_VALUE, 30}, {Integer.MIN_VALUE, 10}, {Integer.MAX_VALUE, 20}, {Integer.MAX_VALUE, 40}, {0, Integer.MAX_VALUE},
            {0, Integer.MIN_VALUE}};
        for (int[] n : none) {
            refused("of " + n[0] + " " + n[1], VOID);
        }
    }
}
