/** Sentences of DOC.md on who asks whom, on who has him, and on days that go: promises 10 to 14. */
final class SentencesOfDays extends Sentences {
    static void all() {
        asked();
        whoHas();
        ill();
        daysThatGo();
        ask();
        has();
        go();
        led();
        waits();
    }

    private static void asked() {
        sentence(TERMS, "ASKED: for a DAY from NOW and 3 on (not HOLY), whoever is owed asks who owes, by an OPEN DEBT: ASKS 0 .. 29,"
            + " as they come.");
        for (int now = 0; now <= 46; now++) {
            on(TWO + ", debt 1 912" + (now == 0 ? "" : ", go 1 " + now));
            refused("ask 0 " + now, BAD);
            refused("ask 0 " + (now + 2), BAD);
            int first = (now + 3) % 4 == 3 ? now + 4 : now + 3;
            if (first < 48) {
                due("ask 0 " + first, 0);
            } else {
                refused("ask 0 " + first, BAD);
            }
        }
        on(TWO + ", mend 0 3 0, debt 1 112, debt 10 912, ask 0 4, ask 1 4");
        same("has 0 4", 1);
        same("has 1 4", 0);
        same("of 0 40", 0);
        same("of 1 40", 1);
        also("go 1 5");
        refused("ask 0 9", STATE);
        for (int k = 2; k < 30; k++) {
            due("ask 1 " + (k % 2 == 0 ? 9 : 46), k);
        }
        refused("ask 1 46", FULL);
        refused("of 30 40", VOID);
        same("of 29 41", 46);
        same("of 28 41", 9);
        same("count 3", 30);
    }

    private static void whoHas() {
        sentence(TERMS, "WHO HAS one who is asked by several for one DAY: by RULE (0 .. 2): 0 whoever asked first; 1 to whom it OWES most"
            + " (all OPEN DEBTS together), of like ones who asked first; 2 for whom it is worth most, likewise.");
        String three = "person 3, person 9, person 5, person 1, debt 1 212, debt 2 312, debt 3 111, debt 2 100";
        on(three + ", ask 2 4, ask 0 4, ask 1 4");
        same("has 0 4", 3);
        on(three + ", ask 0 4, ask 1 4, ask 2 4");
        same("has 0 4", 1);
        also("mend 0 2 1");
        same("has 0 4", 2);
        also("debt 1 201");
        same("has 0 4", 1);
        also("debt 3 302");
        same("has 0 4", 1);
        also("debt 3 112");
        same("has 0 4", 3);
        on(three + ", ask 2 4, ask 1 4, ask 0 4, debt 1 212, mend 0 2 1");
        same("has 0 4", 2);
        on(three + ", ask 2 4, ask 0 4, ask 1 4, debt 1 212, mend 0 2 1");
        same("has 0 4", 1);
        on(three + ", ask 0 4, ask 1 4, ask 2 4, mend 0 2 2");
        same("has 0 4", 1);
        also("text q=2");
        same("has 0 4", 2);
        also("text q");
        same("has 0 4", 3);
        also("text 7-q");
        same("has 0 4", 1);
        also("text q>1");
        same("has 0 4", 2);
        also("text 200*q");
        same("has 0 4", 1);
        also("text -q");
        same("has 0 4", 1);
        also("text d=5&q=3");
        same("has 0 4", 1);
        also("mend 0 2 0");
        same("has 0 4", 1);
        on("person 1, person 1, person 1, mend 0 3 0, mend 0 2 1, debt 1 912, debt 2 112, debt 1 912, ask 2 4, ask 0 4, ask 1 4, go 1 5");
        same("led 40 1", 2);
        refused("mend 0 2 3", BAD);
        refused("mend 0 2 -1", BAD);
        on("person 1, person 1, person 1, debt 1 912, debt 12 912, ask 0 4, ask 1 5");
        same("has 0 4", 1);
        refused("has 0 5", NOT);
        refused("has 1 4", NOT);
        same("has 1 5", 2);
        refused("has 2 4", NOT);
    }

    // How many of so many people, who are all asked for DAYS 4, 5, 6 and 8, work from NOW on, n DAYS long.
    private static int workedByDraws(int seed, int ill, int people, int now, int n) {
        int z = seed;
        int worked = 0;
        for (int day = now; day < now + n; day++) {
            for (int person = 0; person < people; person++) {
                z = z * 1103515245 + 12345;
                boolean asked = day == 4 || day == 5 || day == 6 || day == 8;
                worked += asked && (z >>> 8) % 12 >= ill ? 1 : 0;
            }
        }
        return worked;
    }

    private static final String ASKED = "person 1, person 1, person 1, debt 1 912, debt 12 912, debt 20 912, ask 0 4, ask 1 4, ask 2 4,"
        + " ask 0 5, ask 1 5, ask 2 5, ask 0 6, ask 1 6, ask 2 6, ask 0 8, ask 1 8, ask 2 8";

    private static void ill() {
        sentence(TERMS, "ILL (0 .. 12, in twelfths; 1 at first).");
        on(ASKED);
        same("of 0 51", 1);
        due("go 11 9", workedByDraws(11, 1, 3, 0, 9));
        on(ASKED + ", mend 0 3 0");
        due("go 11 9", 12);
        on(ASKED + ", mend 0 3 12");
        due("go 11 9", 0);
        refused("mend 0 3 13", BAD);
        refused("mend 0 3 -1", BAD);

        sentence(TERMS, "A DAY goes (in deed: by go(), a SEED): PERSON by PERSON z = z * 1103515245 + 12345 (an int; SEED at first):"
            + " ILL, if (z >>> 8) % 12 is below ILL; nobody is ILL on a HOLY DAY, but z is drawn.");
        int[] seeds = {0, 1, -1, 2, 7, 1234567, Integer.MAX_VALUE, Integer.MIN_VALUE};
        for (int seed : seeds) {
            for (int ill = 0; ill <= 12; ill++) {
                on(ASKED + ", mend 0 3 " + ill);
                due("go " + seed + " 9", workedByDraws(seed, ill, 3, 0, 9));
            }
            on(ASKED + ", mend 0 3 6");
            due("go " + seed + " 5", workedByDraws(seed, 6, 3, 0, 5));
            due("go " + seed + " 2", workedByDraws(seed, 6, 3, 5, 2));
            due("go " + seed + " 2", workedByDraws(seed, 6, 3, 7, 2));
            on(ASKED + ", person 1, mend 0 3 6");
            due("go " + seed + " 9", workedByFourth(seed));
        }
    }

    // A PERSON whom nobody asks is drawn for, too.
    private static int workedByFourth(int seed) {
        int z = seed;
        int worked = 0;
        for (int draw = 0; draw < 36; draw++) {
            z = z * 1103515245 + 12345;
            int day = draw / 4;
            boolean asked = draw % 4 < 3 && (day == 4 || day == 5 || day == 6 || day == 8);
            worked += asked && (z >>> 8) % 12 >= 6 ? 1 : 0;
        }
        return worked;
    }

    private static void daysThatGo() {
        sentence(TERMS, "Who is not ILL works for whoever has it that DAY, on the DEBT asked by (if that is still OPEN): WORKED OFF;"
            + " what it is worth is GOT by whom it is for.");
        on(TWO + ", person 5, mend 0 3 0, mend 1 0 7, debt 1 112, debt 1 212, debt 12 300, ask 1 4, ask 0 4, ask 2 4, ask 1 5, ask 0 6");
        due("go 1 5", 2);
        same("of 1 2", 1);
        same("of 0 2", 1);
        same("of 2 2", 2);
        same("of 1 13", 21);
        same("of 2 13", 63);
        same("of 0 13", 0);
        due("go 1 1", 1);
        same("of 1 2", 0);
        same("of 1 13", 42);
        due("go 1 1", 1);
        same("of 0 2", 0);
        on(TWO + ", mend 0 3 0, debt 1 112, ask 0 4, ask 0 5, ask 0 6");
        due("go 1 7", 1);
        same("of 0 2", 0);
        same("of 1 13", 15);
        same("led 40 0", 1);
        same("led 50 0", NOT);
        same("waits", 0);
        on(TWO + ", mend 0 3 0, debt 1 112, ask 0 4, runaway 0");
        due("go 1 5", 0);
        same("of 1 13", 0);
        on(TWO + ", mend 0 3 0, mend 1 0 9, mend 0 0 9, mend 0 1 9, debt 1 900, ask 0 4, ask 0 5, text 100");
        due("go 1 6", 2);
        same("of 1 13", 198);
        on(TWO + ", mend 0 3 0, debt 1 112, ask 0 4, text -1");
        due("go 1 5", 1);
        same("of 1 13", 0);

        sentence(TERMS, "ASKS for that DAY are done then.");
        on(TWO + ", mend 0 3 12, debt 1 912, ask 0 4, ask 0 5, ask 0 4, go 1 4");
        same("of 0 42", 0);
        due("go 1 1", 0);
        same("of 0 42", 1);
        same("of 1 42", 0);
        same("of 2 42", 1);
        same("of 0 2", 9);
        refused("has 0 4", BAD);

        sentence(TERMS, "NOW is 1 more.");
        for (int now = 0; now < 48; now++) {
            same("count 4", now);
            due("go 5 1", 0);
        }
        same("count 4", 48);
        refused("go 5 1", STATE);

        sentence(TERMS, "WAITS: how many ASKS are not done yet.");
        same("waits", 0);
        on(TWO + ", mend 0 3 0, debt 1 112, ask 0 4, ask 0 4, ask 0 6, go 1 4");
        same("waits", 3);
        due("go 1 1", 1);
        same("waits", 1);
        also("runaway 0");
        same("waits", 1);
        also("go 1 1");
        same("waits", 1);
        also("go 1 1");
        same("waits", 0);
    }

    private static void ask() {
        sentence(10, "ASKED by a DEBT for a DAY: the ASK's number.");
        on(TWO + ", debt 1 912, debt 10 912");
        due("ask 1 4", 0);
        due("ask 0 46", 1);
        due("ask 1 4", 2);
        same("of 0 40", 1);
        same("of 0 41", 4);
        same("of 1 40", 0);
        same("of 1 41", 46);
        same("of 2 42", 0);

        sentence(10, "BAD (no such DAY, too early, HOLY); STATE: it is not OPEN; FULL: 30.");
        on(TWO + ", debt 1 912, debt 10 112, runaway 1");
        String[] bad = {"0 48", "0 49", "0 -1", "0 MAX", "0 MIN", "0 0", "0 2", "0 3", "0 7", "0 43", "0 47", "2 4", "-1 4", "20 4", "MAX 4",
            "MIN 4", "1 2", "1 3", "1 48", "2 3"};
        for (String b : bad) {
            refused("ask " + b, BAD);
        }
        refused("ask 1 4", STATE);
        refused("ask 1 46", STATE);
        also("29* ask 0 4");
        due("ask 0 5", 29);
        refused("ask 0 5", FULL);
        refused("ask 0 46", FULL);
        refused("ask 1 5", STATE);
        refused("ask 0 3", BAD);
        refused("ask 1 3", BAD);
        refused("ask 2 5", BAD);
        also("go 1 10");
        refused("ask 0 13", FULL);
        refused("ask 0 12", BAD);
    }

    private static void has() {
        sentence(11, "WHO HAS a PERSON on a DAY (NOW on): who asked.");
        on(TWO + ", person 5, mend 0 3 0, debt 1 112, debt 21 912, ask 0 4, ask 1 4, ask 1 46");
        same("has 0 4", 1);
        same("has 2 4", 1);
        same("has 2 46", 1);
        also("go 1 4");
        same("has 0 4", 1);
        same("has 2 46", 1);
        refused("has 0 3", BAD);
        also("go 1 1");
        refused("has 0 4", BAD);
        refused("has 2 5", NOT);
        on(TWO + ", mend 0 3 12, debt 1 112, ask 0 4, go 1 4");
        same("has 0 4", 1);

        sentence(11, "BAD; NOT: nobody.");
        on(TWO + ", mend 0 3 0, debt 1 112, ask 0 5, ask 0 6");
        String[] bad = {"2 5", "-1 5", "8 5", "MAX 5", "MIN 5", "0 48", "0 -1", "0 MAX", "0 MIN", "2 4"};
        for (String b : bad) {
            refused("has " + b, BAD);
        }
        refused("has 0 0", NOT);
        refused("has 0 4", NOT);
        refused("has 1 5", NOT);
        refused("has 0 47", NOT);
        also("go 1 6");
        refused("has 0 6", NOT);
        refused("has 0 5", BAD);
        also("go 1 42");
        refused("has 0 47", BAD);
        refused("has 0 48", BAD);
    }

    private static void go() {
        sentence(12, "n DAYS (1 .. 48) go by a SEED: how many days were worked.");
        on(ASKED + ", mend 0 3 0");
        due("go 3 5", 3);
        due("go 3 1", 3);
        due("go 3 3", 6);
        due("go 3 39", 0);
        same("count 4", 48);
        on(ASKED + ", mend 0 3 0");
        due("go MAX 48", 12);
        same("count 4", 48);
        on(ASKED + ", mend 0 3 0");
        due("go MIN 1", 0);
        same("count 4", 1);
        on("");
        due("go 0 48", 0);
        same("count 4", 48);

        sentence(12, "BAD; STATE: there are not as many left.");
        on(ASKED);
        String[] bad = {"1 0", "1 -1", "1 49", "1 MAX", "1 MIN"};
        for (String b : bad) {
            refused("go " + b, BAD);
        }
        on(ASKED + ", go 1 1");
        refused("go 1 48", STATE);
        refused("go 1 49", BAD);
        refused("go 1 0", BAD);
        also("go 1 40");
        refused("go 1 8", STATE);
        due("go 1 7", 0);
        refused("go 1 1", STATE);
        refused("go 1 48", STATE);
        refused("go 1 49", BAD);
        refused("go 1 0", BAD);
    }

    private static void led() {
        sentence(TERMS, "LED: of a DAY that was: who worked for whom (NOT: nobody), on which DEBT; what was GOT so far by one.");
        on(TWO + ", person 5, mend 0 3 0, debt 10 112, debt 1 112, debt 2 112, ask 1 4, ask 2 5");
        refused("led 40 0", BAD);
        also("go 1 4");
        refused("led 40 0", BAD);
        same("of 1 13", 0);
        also("go 1 1");
        same("led 40 0", 1);
        same("led 40 1", 1);
        same("led 41 0", NOT);
        same("led 41 1", NOT);
        same("led 42 0", NOT);
        same("led 30 0", NOT);
        same("led 0 0", NOT);
        same("of 1 13", 15);
        same("of 2 13", 0);
        refused("led 50 0", BAD);
        also("go 1 1");
        same("led 50 0", 2);
        same("led 50 1", 2);
        same("of 2 13", 15);
        also("heir 12, heir 20");
        same("led 40 0", 1);
        same("led 50 0", 2);
        same("of 2 13", 15);
        on("8* person 1, mend 0 3 0, debt 70 112, debt 7 112, ask 0 4, ask 1 46, go 1 47");
        same("led 47 0", 0);
        same("led 460 0", 7);
        same("led 460 1", 1);
        same("led 40 0", NOT);
        same("led 467 0", NOT);

        sentence(13, "LED (dp: 10 times the DAY and the PERSON): for whom (what 0), on which DEBT (1).");
        String all = "8* person 1, mend 0 3 0";
        for (int p = 0; p < 8; p++) {
            all += ", debt " + (10 * p + (p + 3) % 8) + " 912, ask " + p + " 4, ask " + p + " " + (p % 2 == 0 ? 5 : 6);
        }
        on(all + ", go 1 7");
        for (int dp = 0; dp < 70; dp++) {
            int p = dp % 10;
            boolean works = dp / 10 == 4 || dp / 10 == 5 + p % 2;
            same("led " + dp + " 0", p > 7 ? BAD : works ? (p + 3) % 8 : NOT);
            same("led " + dp + " 1", p > 7 ? BAD : works ? p : NOT);
        }

        sentence(13, "BAD; NOT.");
        on(TWO + ", mend 0 3 0, debt 1 112, ask 0 4, go 1 5");
        String[] bad = {"-1 0", "-10 0", "MIN 0", "MAX 0", "50 0", "470 0", "480 0", "42 0", "49 0", "40 2", "40 -1", "40 MAX", "40 MIN",
            "42 2"};
        for (String b : bad) {
            refused("led " + b, BAD);
        }
        refused("led 41 0", NOT);
        refused("led 30 1", NOT);
        also("go 1 43");
        refused("led 471 0", NOT);
        refused("led 470 1", NOT);
        refused("led 480 0", BAD);
        refused("led 472 0", BAD);
    }

    private static void waits() {
        sentence(14, "WAITS.");
        same("waits", 0);
        on(TWO + ", debt 1 912, debt 10 100, 15* ask 0 4, 15* ask 1 46");
        same("waits", 30);
        refused("ask 0 5", FULL);
        same("waits", 30);
        also("go 1 4");
        same("waits", 30);
        also("go 1 1");
        same("waits", 15);
        also("runaway 1, go 1 41");
        same("waits", 15);
        also("go 1 1");
        same("waits", 0);
        same("count 3", 30);
    }
}
