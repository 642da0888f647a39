/** Sentences of DOC.md on the days whose acts come from above: promises 31 to 33. */
final class SentencesOfActs extends Sentences {
    private static final int[] ABOVE = {-1, 0, 0, 2, 1, 3, 0, 4};
    private static final String EIGHT = "body 0, body 1, body 2, body 3, body 4, body 5, body 6, body 7";

    static void all() {
        kinds();
        bodiesOfActs();
        ownAndSuper();
        theTrace();
        body();
        act();
        trace();
    }

    // An ACT of a body of EIGHT (n is the KIND too): its value, and the bodies that ran.
    private static void acted(int body, int act, int x, int value, int... ran) {
        on(EIGHT);
        due("act " + body + " " + act + " " + x, value);
        same("count 8", ran.length);
        for (int i = 0; i < ran.length; i++) {
            same("trace " + i, ran[i]);
        }
        refused("trace " + ran.length, BAD);
    }

    private static void kinds() {
        sentence(TERMS, "DAYS' ways are kept by call as BODIES 0 .. 49, of KINDS: 0 DAY; 1 OWED under DAY; 2 LONG under DAY; 3 HALF under LONG;"
            + " 4 HANDED under OWED; 5 ILL under HALF; 6 HOLY under DAY; 7 STRUCK under HANDED.");
        for (int kind = 0; kind < 8; kind++) {
            on("body " + kind + ", keep 0 0");
            for (int k = 0; k < 8; k++) {
                boolean isUnder = false;
                for (int at = kind; at >= 0; at = ABOVE[at]) {
                    isUnder |= at == k;
                }
                same("taken 0 " + k, isUnder ? kind : OTHER);
            }
        }
        on("");
        for (int number = 0; number < 50; number++) {
            due("body " + number % 8, number);
        }
        refused("body 0", FULL);
        same("count 7", 50);
        due("act 49 0 0", 52);
        due("act 50 0 0", 0);
        refused("keep 0 50", BAD);
        due("keep 0 49", 1);
        same("taken 0 1", 1);
    }

    private static void bodiesOfActs() {
        sentence(TERMS, "ACTS with x (an int that wraps): 0 owes, 1 works, 2 asks, 3 tells; n its number.");
        on("5* body 0");
        due("act 4 0 10", 14);
        due("act 4 1 10", 28);
        due("act 4 2 10", 14);
        due("act 4 3 10", 23);
        due("act 4 0 MAX", Integer.MIN_VALUE + 3);
        due("act 4 1 MAX", 6);
        due("act 4 1 MIN", 8);
        due("act 4 2 MIN", Integer.MIN_VALUE + 4);
        due("act 4 3 MAX", 1);
        on("5* body 2");
        due("act 4 1 1073741820", Integer.MIN_VALUE);
        due("act 4 0 MIN", Integer.MIN_VALUE + 4);
        on("body 3");
        due("act 0 2 MAX", Integer.MAX_VALUE - 2);
        due("act 0 1 MAX", 0);
        sentence(TERMS, "BODIES of acts: OWES (an interface of DAY): 1 owes: x + n.");
        acted(0, 0, 10, 10, 1);
        acted(2, 0, 10, 12, 1);
        acted(5, 0, 10, 15, 1);
        sentence(TERMS, "DAY: 10 works: owes(x) * 2. 11 asks: x ^ n.");
        acted(0, 1, 10, 20, 10, 1);
        acted(6, 2, 10, 12, 11);
        acted(0, 2, 10, 10, 11);
        sentence(TERMS, "TELLS (of DAY): 2 tells: works(x) - asks(1).");
        acted(0, 3, 10, 19, 2, 10, 1, 11);
        acted(2, 3, 10, -27, 2, 30, 10, 1, 11);
        sentence(TERMS, "OWED: 20 owes: super.owes(x) + 3.");
        acted(1, 0, 10, 14, 20, 1);
        acted(1, 1, 10, 28, 10, 20, 1);
        sentence(TERMS, "LONG: 30 works: -super.works(x).");
        acted(2, 1, 10, -24, 30, 10, 1);
        sentence(TERMS, "HALF: 40 asks: super.asks(x) * 3. 41 works: super.works(x + 1).");
        acted(3, 2, 10, 27, 40, 11);
        acted(3, 1, 10, -28, 41, 30, 10, 1);
        sentence(TERMS, "HANDED: 50 asks: super.asks(x) - owes(2).");
        acted(4, 2, 10, 5, 50, 11, 20, 1);
        sentence(TERMS, "ILL: 60 tells: super.tells(x) ^ 5.");
        acted(5, 3, 10, -47, 60, 2, 41, 30, 10, 1, 40, 11);
        sentence(TERMS, "HOLY: 70 owes: super.owes(x) * 2.");
        acted(6, 0, 10, 32, 70, 1);
        acted(6, 3, 10, 57, 2, 10, 70, 1, 11);
        sentence(TERMS, "STRUCK: 80 works: super.works(x) + asks(2). 81 tells: super.tells(x) - 1.");
        acted(7, 1, 10, 33, 80, 10, 20, 1, 50, 11, 20, 1);
        acted(7, 3, 10, 38, 81, 2, 80, 10, 20, 1, 50, 11, 20, 1, 50, 11, 20, 1);
    }

    private static void ownAndSuper() {
        sentence(TERMS, "owes(..) and so on: the body of its own KIND, or of the next KIND above that has one; super: from the KIND above the body's on.");
        acted(1, 2, 10, 11, 11);
        acted(1, 3, 10, 28, 2, 10, 20, 1, 11);
        acted(2, 2, 10, 8, 11);
        acted(3, 0, 10, 13, 1);
        acted(3, 3, 10, -34, 2, 41, 30, 10, 1, 40, 11);
        acted(4, 0, 10, 17, 20, 1);
        acted(4, 1, 10, 34, 10, 20, 1);
        acted(4, 3, 10, 38, 2, 10, 20, 1, 50, 11, 20, 1);
        acted(5, 1, 10, -32, 41, 30, 10, 1);
        acted(5, 2, 10, 45, 40, 11);
        acted(6, 1, 10, 64, 10, 70, 1);
        acted(7, 0, 10, 20, 20, 1);
        acted(7, 2, 10, 1, 50, 11, 20, 1);
    }

    private static void theTrace() {
        sentence(TERMS, "THE TRACE: numbers of the bodies that ran in the latest act(), as they began; the first 24 are kept.");
        on(EIGHT + ", act 7 3 10");
        same("count 8", 14);
        same("trace 0", 81);
        same("trace 13", 1);
        refused("trace 14", BAD);
        refused("trace 23", BAD);
        refused("trace 24", BAD);
        also("act 0 2 1");
        same("count 8", 1);
        same("trace 0", 11);
        refused("trace 1", BAD);
    }

    private static void body() {
        sentence(31, "A DAY of a KIND (0 .. 7) is kept: its number.");
        due("body 7", 0);
        due("body 0", 1);
        same("count 7", 2);
        also("keep 0 0, keep 1 1");
        same("taken 0 7", 7);
        same("taken 1 0", 0);
        sentence(31, "BAD, FULL.");
        String[] bad = {"8", "-1", "MAX", "MIN"};
        for (String b : bad) {
            refused("body " + b, BAD);
        }
        also("49* body 1");
        refused("body 8", BAD);
        due("body 7", 49);
        for (String b : bad) {
            refused("body " + b, BAD);
        }
        refused("body 0", FULL);
        refused("body 7", FULL);
    }

    private static void act() {
        sentence(32, "An ACT (0 .. 3) of a DAY with x.");
        on(EIGHT);
        due("act 7 0 -25", -15);
        due("act 7 3 -25", -32);
        due("act 0 0 0", 0);
        same("count 8", 1);
        sentence(32, "0, and no TRACE then: no such DAY, ACT.");
        String[] none = {"8 0 1", "-1 0 1", "50 0 1", "MAX 0 1", "MIN 0 1", "0 4 1", "0 -1 1", "0 MAX 1", "0 MIN 1", "8 4 1"};
        for (String n : none) {
            on(EIGHT + ", act 7 3 10");
            due("act " + n, 0);
            same("count 8", 0);
            refused("trace 0", BAD);
            same("act " + n, 0);
        }
        on("");
        due("act 0 0 1", 0);
    }

    private static void trace() {
        sentence(33, "THE TRACE's i-th body.");
        on(EIGHT + ", act 4 3 10");
        int[] ran = {2, 10, 20, 1, 50, 11, 20, 1};
        for (int i = 0; i < 8; i++) {
            same("trace " + i, ran[i]);
        }
        sentence(33, "BAD.");
        refused("trace 0", BAD);
        on(EIGHT + ", act 4 3 10");
        String[] bad = {"8", "-1", "23", "24", "MAX", "MIN"};
        for (String b : bad) {
            refused("trace " + b, BAD);
        }
    }
}
