/** Sentences of DOC.md on books, changes and images: promises 25 to 30. */
final class SentencesOfBooks extends Sentences {
    private static final String THREE = "person 1, person 1, person 1, debt 1 312, debt 1 200, debt 12 400, debt 20 911, runaway 2";

    static void all() {
        judged();
        wet();
        image();
        changes();
    }

    private static void book(String elements, int want) {
        on(THREE + ", " + (elements.isEmpty() ? "row 0 1 0" : "fill 0 1 " + elements));
        same("judge 0", want);
    }

    private static void judged() {
        sentence(TERMS, "A BOOK: a ROW of shorts on a SHELF, by threes who OWES, to whom, DAYS (-1: wet):"
            + " JUDGED against OPEN DEBTS by pairs (all KINDS together):");
        book("0 1 5", NOT);
        book("0 1 3", 0);
        book("0 1 2", 0);
        book("1 2 4 0 1 5", NOT);
        book("2 0 0", NOT);
        book("2 0 9", 0);
        book("1 0 0", NOT);
        book("1 0 5", 0);
        book("0 1 5 0 1 5", NOT);

        sentence(TERMS, "the first three that is not so (unlike people there; not as OWED between them), wet ones are so;"
            + " a three's end that lacks, too; NOT.");
        book("0 1 5 1 2 4 1 0 0", NOT);
        book("0 1 5 1 2 3 1 0 0", 1);
        book("0 1 5 1 2 5 1 0 1", 1);
        book("0 1 5 1 2 4 1 0 1", 2);
        book("0 1 -1 1 2 -1 1 0 -1", NOT);
        book("0 1 -1 1 2 3", 1);
        book("0 1 -2", 0);
        book("0 1 5 1 1 0", 1);
        book("0 0 0", 0);
        book("0 3 0", 0);
        book("3 0 0", 0);
        book("-1 0 0", 0);
        book("0 -1 0", 0);
        book("0", 0);
        book("0 1", 0);
        book("0 1 5 0", 1);
        book("0 1 5 0 1", 1);
        book("0 1 5 0 1 4 0", 1);
        book("", NOT);
        on(THREE + ", fill 0 1 0 1 5 0 1 5, fill 0 1 0 1 5 0 1");
        same("judge 0", 1);
        on(THREE + ", fill 0 1 0 1 5 1 0 0, fill 0 1 0 1 5 1");
        same("judge 0", 1);

        sentence(25, "JUDGED.");
        StringBuilder twenty = new StringBuilder("row 5 1 60");
        for (int at = 0; at < 60; at += 3) {
            twenty.append(", put 5 " + (at + 1) + " 1, put 5 " + (at + 2) + " 5");
        }
        on(THREE + ", " + twenty);
        same("judge 5", NOT);
        also("put 5 59 4");
        same("judge 5", 19);
        also("put 5 0 1");
        same("judge 5", 0);
        on("person 1, person 1, 20* debt 1 912, fill 0 1 0 1 180");
        same("judge 0", NOT);
        sentence(25, "BAD, -11, -12 (no ROW of shorts); NOT.");
        on(THREE + ", body 0, keep 1 0, fill 0 1 0 1 5");
        refused("judge 0", NOT);
        refused("judge 6", BAD);
        refused("judge -1", BAD);
        refused("judge MAX", BAD);
        refused("judge MIN", BAD);
        refused("judge 2", NOTHING);
        refused("judge 1", OTHER);
        for (int sort = 0; sort < 5; sort++) {
            if (sort != 1) {
                on(THREE + ", fill 0 " + sort + " 0 1 5");
                refused("judge 0", OTHER);
                also("row 0 " + sort + " 0");
                refused("judge 0", OTHER);
            }
        }
    }

    private static void wet() {
        sentence(TERMS, "WET: what all wet ones of a told pair's owing (the first two numbers) are together:"
            + " OWED between them less what is not wet in the ROW of that pair.");
        on("8* person 1, debt 1 912, debt 1 100, debt 10 200, debt 76 912, debt 67 812,"
            + " fill 0 1 0 1 3 0 1 -1 1 0 1 0 1 2 0 1 -1 0 2 5 7 6 2 6 7 5 7 6 -1");
        same("wet 0 1", 5);
        same("wet 0 10", 1);
        same("wet 0 2", -5);
        same("wet 0 12", 0);
        same("wet 0 76", 7);
        same("wet 0 67", 3);
        also("debt 1 311");
        same("wet 0 1", 8);
        also("runaway 0");
        same("wet 0 1", -5);
        on(THREE + ", fill 0 1 0 1 3 0 1");
        same("wet 0 1", 2);
        on(THREE + ", fill 0 1 0 1 4 0 1 1");
        same("wet 0 1", 0);
        on(THREE + ", fill 0 1 0 1 -1 0 1 -1 0 1 -1");
        same("wet 0 1", 5);
        on(THREE + ", fill 0 1 0 1 -2 0 1 32767");
        same("wet 0 1", 5 + 2 - 32767);
        on(THREE + ", row 0 1 0");
        same("wet 0 1", 5);
        on(THREE + ", fill 0 1 0 1 3 0 1 1, fill 0 1 0 1 3 0 1");
        same("wet 0 1", 2);
        on(THREE + ", fill 0 1 0 1 3 0 1 1, fill 0 1 0 1 3 0");
        same("wet 0 1", 2);

        sentence(26, "WET of a pair (pq unlike).");
        on(THREE + ", row 5 1 60, put 5 58 1, put 5 59 3");
        same("wet 5 1", 2);
        same("wet 5 12", 4);
        same("wet 5 21", 0);
        sentence(26, "VOID: BAD, or no ROW of shorts.");
        on(THREE + ", fill 0 1 0 1 3, body 0, keep 1 0, fill 3 0 0 1 1, fill 4 2 0 1 1, fill 5 3 0 1 1");
        String[] none = {"6 1", "-1 1", "MAX 1", "MIN 1", "0 0", "0 11", "0 3", "0 30", "0 -1", "0 100", "0 MAX", "0 MIN", "1 1", "2 1", "3 1",
            "4 1", "5 1"};
        for (String n : none) {
            refused("wet " + n, VOID);
        }
        also("fill 3 4 0 1 1");
        refused("wet 3 1", VOID);
    }

    private static final String KEPT = "person 3, person 4, person 5, mend 0 3 0, mend 0 0 9, debt 1 200, debt 20 301, ask 0 4, ask 1 6,"
        + " go 1 5, image";

    private static void image() {
        sentence(TERMS, "AN IMAGE keeps DEBTS, ASKS, NOW, what LED tells.");
        on(KEPT + ", mend 1 0 9, debt 12 500, ask 2 8, ask 0 8, heir 2, go 1 4, runaway 1, person 9, mend 0 2 1, text 7, bytes ab, body 3,"
            + " keep 4 0, row 5 2 3, act 0 3 1");
        same("of 1 13", 40);
        same("of 2 13", 20);
        due("back", 5);
        int[][] kept = {{0, 0, 0}, {0, 1, 1}, {0, 2, 2}, {0, 3, 0}, {0, 4, 1}, {1, 0, 2}, {1, 1, 0}, {1, 2, 3}, {1, 3, 1}, {1, 4, 0},
            {0, 40, 0}, {0, 41, 4}, {0, 42, 1}, {1, 40, 1}, {1, 41, 6}, {1, 42, 0}, {2, 0, VOID}, {2, 40, VOID},
            {0, 13, 0}, {1, 13, 15}, {2, 13, 0}, {1, 11, 0}, {2, 12, 0}};
        for (int[] k : kept) {
            same("of " + k[0] + " " + k[1], k[2]);
        }
        same("count 1", 2);
        same("count 3", 2);
        same("count 4", 5);
        same("waits", 1);
        same("led 40 0", 1);
        same("led 40 1", 0);
        refused("led 60 0", BAD);
        same("count 0", 4);
        same("of 1 20", 9);
        same("of 0 50", 1);
        same("count 6", 4);
        same("worth 1 40", 7);
        same("count 5", 2);
        same("count 7", 1);
        same("count 8", 7);
        same("taken 4 3", 3);
        same("element 5 2", 0);
        due("go 1 5", 1);
        for (int dp = 50; dp < 100; dp++) {
            int want = dp % 10 > 3 ? BAD : dp == 62 ? 1 : NOT;
            same("led " + dp + " 1", want);
            same("led " + dp + " 0", dp == 62 ? 0 : want);
        }
        on(TWO + ", mend 0 3 0, mend 0 0 9, image, debt 1 900, ask 0 4, go 1 5, back");
        due("debt 1 900", 0);
        same("of 0 4", 0);
        due("ask 0 4", 0);
        same("of 0 42", 0);
        same("of 1 13", 0);

        imageOfAll();

        sentence(27, "AN IMAGE is kept: NOW.");
        due("image", 0);
        also("go 1 7");
        due("image", 7);
        also("go 1 41");
        due("image", 48);
        due("back", 48);
        on(KEPT + ", go 1 10, image, go 1 3");
        due("back", 15);
        same("count 4", 15);

        sentence(28, "It is laid back: NOW.");
        on(KEPT + ", go 1 30");
        due("back", 5);
        same("count 4", 5);
        also("go 1 3, runaway 0");
        due("back", 5);
        same("of 0 2", 2);
        same("back", 5);
        on("image, 8* person 1, 20* debt 1 112");
        due("back", 0);
        same("count 1", 0);
        same("count 0", 8);
        sentence(28, "STATE: there is none.");
        refused("back", STATE);
        on(TWO + ", debt 1 112, go 1 3");
        refused("back", STATE);
    }

    // With all DEBTS and ASKS that may be there, and the last DAYS too.
    private static void imageOfAll() {
        StringBuilder full = new StringBuilder("8* person 2, mend 0 3 0, mend 11 0 3");
        for (int d = 0; d < 20; d++) {
            full.append(", debt " + (d % 8) + (d + 1) % 8 + " 90" + d % 10);
        }
        full.append(", go 1 30");
        for (int a = 0; a < 30; a++) {
            full.append(", ask " + (a < 15 ? a + " 34" : (34 - a) + " 46"));
        }
        String first = full + ", go 1 6, image";
        on(first + ", go 1 11, heir 42, heir 10, heir 75, runaway 6, back");
        isLike(first);
        on(first + ", runaway 3, runaway 0, back");
        isLike(first);
        String last = full + ", go 1 17, image";
        on(last + ", heir 10, heir 32, heir 75, runaway 6, go 1 1, back");
        isLike(last);
        on(first + ", go 1 11, back, mend 0 3 12, go 1 12, mend 0 3 0");
        isLike(first + ", mend 0 3 12, go 1 12, mend 0 3 0");
        on("4* person 1, debt 1 112, debt 12 112, image, hand 1, back");
        same("of 0 1", 1);
        same("of 1 2", 1);
    }

    private static void changes() {
        sentence(TERMS, "CHANGES (LIGHT of MONTHS, SKILL of PEOPLE, RULE, ILL; telling the same number is none) can be UNDONE, the latest first,"
            + " and DONE AGAIN (as long as no other came behind); 40 at most are kept.");
        on(TWO + ", mend 2 0 7, mend 1 1 2, mend 0 2 1, mend 0 3 4");
        int[][] undone = {{3, 0, 51, 1}, {2, 0, 50, 0}, {1, 1, 10, 9}, {0, 2, 20, 5}};
        for (int[] u : undone) {
            due("undo", u[0]);
            same("of " + u[1] + " " + u[2], u[3]);
            same("count 6", u[0]);
        }
        refused("undo", STATE);
        int[][] again = {{3, 2, 20, 7}, {2, 1, 10, 2}, {1, 0, 50, 1}, {0, 0, 51, 4}};
        for (int[] a : again) {
            due("redo", a[0]);
            same("of " + a[1] + " " + a[2], a[3]);
            same("count 6", 4 - a[0]);
        }
        refused("redo", STATE);
        String[] like = {"mend 2 0 7", "mend 1 1 2", "mend 0 2 1", "mend 0 3 4", "mend 0 1 3", "mend 11 0 5"};
        int[] was = {7, 2, 1, 4, 3, 5};
        also("undo, redo, mend 0 0 9, undo");
        for (int k = 0; k < like.length; k++) {
            same(like[k], was[k]);
        }
        due("redo", 0);
        same("of 0 20", 9);
        also("undo, undo, mend 0 0 8");
        refused("redo", STATE);
        due("undo", 3);
        same("of 0 51", 1);
        same("of 0 20", 5);
        due("redo", 0);
        same("of 0 20", 8);
        refused("redo", STATE);
        forty();

        sentence(29, "UNDONE: how many may still be.");
        on("mend 0 0 1, mend 0 0 2, mend 0 0 3");
        due("undo", 2);
        same("of 0 20", 2);
        due("undo", 1);
        due("undo", 0);
        same("of 0 20", 5);
        sentence(29, "STATE: none.");
        refused("undo", STATE);
        on("mend 0 0 5, mend 0 0 0");
        refused("undo", STATE);
        on("mend 0 0 1, undo");
        refused("undo", STATE);

        sentence(30, "DONE AGAIN: how many may still be.");
        on("mend 0 0 1, mend 0 0 2, mend 0 0 3, undo, undo, undo");
        due("redo", 2);
        same("of 0 20", 1);
        due("redo", 1);
        due("redo", 0);
        same("of 0 20", 3);
        sentence(30, "STATE: none.");
        refused("redo", STATE);
        on("mend 0 0 1");
        refused("redo", STATE);
        also("undo, mend 0 0 2");
        refused("redo", STATE);
        on("mend 0 0 1, undo, redo");
        refused("redo", STATE);
    }

    // 44 changes of all that can be changed: only the latest 40 go back, and come again.
    private static void forty() {
        int[][] settings = {{3, 20, 0}, {7, 20, 0}, {1, 10, 1}, {3, 10, 1}, {0, 50, 2}, {0, 51, 3}, {11, 20, 0}, {2, 10, 1}};
        int[][] then = new int[45][];
        then[0] = new int[] {5, 5, 2, 4, 0, 1, 5, 3};
        StringBuilder mended = new StringBuilder("person 1, person 2, person 3, person 4");
        for (int k = 0; k < 44; k++) {
            int at = k % 8;
            int v = settings[at][2] == 2 ? (then[k][at] + 1) % 3 : then[k][at] % 9 + 1;
            mended.append(", mend " + settings[at][0] + " " + settings[at][2] + " " + v);
            then[k + 1] = then[k].clone();
            then[k + 1][at] = v;
        }
        on(mended.toString());
        same("count 6", 40);
        for (int k = 43; k >= 4; k--) {
            due("undo", k - 4);
            same("of " + settings[k % 8][0] + " " + settings[k % 8][1], then[k][k % 8]);
        }
        for (int at = 0; at < 8; at++) {
            same("of " + settings[at][0] + " " + settings[at][1], then[4][at]);
        }
        refused("undo", STATE);
        on(mended + ", 40* undo");
        for (int k = 4; k < 44; k++) {
            due("redo", 43 - k);
            same("of " + settings[k % 8][0] + " " + settings[k % 8][1], then[k + 1][k % 8]);
        }
        refused("redo", STATE);
        on(mended + ", undo, undo, mend 5 0 9");
        same("count 6", 39);
        also("mend 5 0 8, mend 5 0 7");
        same("count 6", 40);
    }
}
