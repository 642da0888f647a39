/** Sentences of DOC.md on shelves, on counts and on how calls are refused: promises 34 to 40, and the Terms' end. */
final class SentencesOfShelves extends Sentences {
    static void all() {
        shelves();
        refusals();
        answers();
        memory();
        keep();
        row();
        put();
        element();
        shift();
        taken();
        count();
    }

    private static void shelves() {
        sentence(TERMS, "SHELVES 0 .. 5 each hold nothing (at first), a DAY (a BODY), or a ROW: of 0 bytes, 1 shorts, 2 ints, 3 longs,"
            + " 4 booleans, of 0 .. 60 elements, 0 at first (false);");
        on("body 6, keep 5 0");
        for (int shelf = 0; shelf < 5; shelf++) {
            refused("taken " + shelf + " 0", NOTHING);
            refused("put " + shelf + " 0 1", NOTHING);
            refused("element " + shelf + " 0", REFUSED);
        }
        same("taken 5 6", 6);
        refused("taken 6 0", BAD);
        refused("taken -1 0", BAD);
        for (int sort = 0; sort < 5; sort++) {
            on("row " + sort + " " + sort + " 60");
            for (int i = 0; i < 60; i++) {
                same("element " + sort + " " + i, 0);
            }
            refused("element " + sort + " 60", REFUSED);
            refused("put " + sort + " 60 1", NOWHERE);
            on("row 0 " + sort + " 0");
            refused("element 0 0", REFUSED);
            refused("put 0 0 1", NOWHERE);
            same("shift 0 0 0 0 0", 0);
        }

        sentence(TERMS, "what is put in keeps its lowest bits (a boolean: whether it is not 0; 1 or 0).");
        kept(0, "127", 127, "128", -128, "-128", -128, "-129", 127, "256", 0, "255", -1, "LONGMAX", -1, "LONGMIN", 0, "4294967297", 1);
        kept(1, "32767", 32767, "32768", -32768, "-32769", 32767, "65536", 0, "65535", -1, "LONGMAX", -1, "LONGMIN", 0, "128", 128);
        kept(2, "2147483647", 2147483647, "2147483648", -2147483648, "-2147483649", 2147483647, "4294967296", 0, "LONGMAX", -1,
            "LONGMIN", 0, "65536", 65536);
        kept(3, "LONGMAX", Long.MAX_VALUE, "-9223372036854775807", -Long.MAX_VALUE, "4294967296", 4294967296L, "-1", -1, "0", 0);
        kept(4, "0", 0, "1", 1, "-1", 1, "2", 1, "256", 1, "4294967296", 1, "LONGMIN", 1, "LONGMAX", 1);
    }

    private static void kept(int sort, Object... putAndKept) {
        for (int at = 0; at < putAndKept.length; at += 2) {
            on("row 0 " + sort + " 3, put 0 1 1");
            due("put 0 1 " + putAndKept[at], 1);
            same("element 0 1", ((Number) putAndKept[at + 1]).longValue());
            same("element 0 0", 0);
            same("element 0 2", 0);
        }
    }

    private static void refusals() {
        sentence(TERMS, "The host's REFUSALS: -11 nothing is there where something is wanted; -12 it is of another kind;"
            + " -13 a place that is not there; -14 a size below 0.");
        on("body 0, keep 1 0, fill 2 0 1 2 3, fill 3 1 1 2 3");
        refused("put 0 0 1", NOTHING);
        refused("judge 0", NOTHING);
        refused("taken 0 0", NOTHING);
        refused("shift 0 0 2 0 1", NOTHING);
        refused("shift 2 0 0 0 1", NOTHING);
        refused("put 1 0 1", OTHER);
        refused("judge 1", OTHER);
        refused("judge 2", OTHER);
        refused("debts 1 0 1", OTHER);
        refused("debts 3 0 1", OTHER);
        refused("taken 2 0", OTHER);
        refused("taken 1 1", OTHER);
        refused("shift 2 0 3 0 1", OTHER);
        refused("shift 1 0 2 0 1", OTHER);
        refused("put 2 3 1", NOWHERE);
        refused("put 2 -1 1", NOWHERE);
        refused("shift 2 0 2 1 3", NOWHERE);
        refused("row 0 0 -1", BELOW);
        refused("row 2 0 MIN", BELOW);
    }

    // All that may be there at once, and something of all that can be lost.
    private static final String HOUSE = "person 3, person 9, person 5, mend 0 3 0, mend 0 0 9, mend 0 2 1, mend 1 1 4, undo,"
        + " debt 1 300, debt 12 312, debt 20 212, debt 10 112, debt 21 911, text d*l+s, bytes (d+, ask 0 4, ask 1 5, ask 0 6, ask 0 9,"
        + " go 1 5, image, ask 3 9, go 1 1, body 0, body 7, body 4, act 1 3 9, keep 0 1, fill 1 0 0 1 2 12 0 1, fill 2 1 0 1 3 1 2 -1,"
        + " fill 3 2 7 8 9, fill 4 4 1 0 1, runaway 2";

    private static void answers() {
        sentence(TERMS, "Answers, of several the one named first: BAD (-1): no such number, or it is not as said; NOT (-2): as told; FULL (-3);"
            + " STATE (-5): as told; -11 to -14.");
        on("8* person 1, 19* debt 1 112, debt 10 912, runaway 1, 30* ask 0 4, 50* body 0, 120* feed 1, keep 1 0, row 2 0 3, row 3 1 3, go 1 1");
        String[][] named = {{"person 0", "-1"}, {"person 1", "-3"}, {"debt 11 112", "-1"}, {"debt 1 112", "-3"}, {"feed 256", "-1"},
            {"feed 1", "-3"}, {"ask 19 3", "-1"}, {"ask 20 5", "-1"}, {"ask 19 5", "-5"}, {"ask 0 5", "-3"}, {"body 8", "-1"}, {"body 0", "-3"},
            {"go 1 49", "-1"}, {"go 1 48", "-5"}, {"bestDay 19 2", "-1"}, {"bestDay 19 0", "-5"}, {"hand 20", "-1"}, {"hand 0", "-2"},
            {"has 8 0", "-1"}, {"has 0 0", "-1"}, {"has 1 4", "-2"}, {"led 18 0", "-1"}, {"led 0 0", "-2"}, {"debts 1 0 16", "-1"},
            {"debts 1 0 1", "-12"}, {"debts 3 0 1", "-12"}, {"row 6 0 -1", "-1"}, {"row 0 5 -1", "-1"}, {"row 0 0 -1", "-14"},
            {"row 0 0 61", "-1"}, {"judge 6", "-1"}, {"judge 0", "-11"}, {"judge 1", "-12"}, {"put 6 99 1", "-1"}, {"put 0 99 1", "-11"},
            {"put 1 99 1", "-12"}, {"put 2 99 1", "-13"}, {"shift 6 9 0 9 9", "-1"}, {"shift 1 9 0 9 9", "-11"}, {"shift 0 9 1 9 9", "-11"},
            {"shift 1 9 2 9 9", "-12"}, {"shift 2 9 3 9 9", "-12"}, {"shift 2 9 2 9 9", "-13"}, {"taken 0 8", "-1"}, {"taken 1 8", "-1"},
            {"taken 0 1", "-11"}, {"taken 1 1", "-12"}, {"taken 2 0", "-12"}};
        for (String[] n : named) {
            refused(n[0], Long.parseLong(n[1]));
        }
        on(TWO + ", debt 1 112, debt 10 112, runaway 1, go 1 45");
        refused("bestDay 0 0", NOT);
        refused("bestDay 1 0", STATE);
        refused("bestDay 1 2", BAD);

        sentence(TERMS, "VOID is -2000000000.");
        same("of 0 0", -2000000000);
        same("free 0 0", -2000000000);
        same("balance 0", -2000000000);
        same("wet 0 1", -2000000000);

        sentence(TERMS, "What is answered so changes nothing.");
        on(HOUSE);
        String[][] refused = {{"person 0", "-1"}, {"person 10", "-1"}, {"debt 11 112", "-1"}, {"debt 1 113", "-1"}, {"debts 6 0 1", "-1"},
            {"debts 1 0 0", "-1"}, {"debts 2 0 1", "-12"}, {"debts 0 0 1", "-12"}, {"mend 0 0 10", "-1"}, {"mend 3 1 5", "-1"},
            {"mend 1 2 1", "-1"}, {"mend 0 3 13", "-1"}, {"feed 256", "-1"}, {"feed -1", "-1"}, {"ask 0 8", "-1"}, {"ask 0 11", "-1"},
            {"ask 2 9", "-5"}, {"go 1 0", "-1"}, {"go 1 49", "-1"}, {"go 1 43", "-5"}, {"bestDay 2 0", "-5"}, {"bestDay 5 0", "-1"},
            {"hand 5", "-1"}, {"hand 3", "-2"}, {"strike", "1"}, {"runaway 3", "-1"}, {"heir 11", "-1"}, {"heir 3", "-1"}, {"judge 6", "-1"},
            {"judge 5", "-11"}, {"judge 0", "-12"}, {"wet 6 1", "-2000000000"}, {"wet 3 1", "-2000000000"}, {"of 0 5", "-2000000000"},
            {"free 3 1", "-2000000000"}, {"balance 3", "-2000000000"}, {"plan 0 48", "-1"}, {"worth 0 0", "-1"}, {"has 0 5", "-1"},
            {"led 60 0", "-1"}, {"body 8", "-1"}, {"keep 6 -1", "-1"}, {"keep 0 3", "-1"}, {"keep 0 -2", "-1"}, {"row 6 0 1", "-1"},
            {"row 1 5 1", "-1"}, {"row 1 0 61", "-1"}, {"row 1 0 -1", "-14"}, {"put 6 0 1", "-1"}, {"put 5 0 1", "-11"}, {"put 0 0 1", "-12"},
            {"put 1 6 1", "-13"}, {"put 1 -1 1", "-13"}, {"shift 6 0 1 0 1", "-1"}, {"shift 1 0 5 0 1", "-11"}, {"shift 1 0 2 0 1", "-12"},
            {"shift 1 0 0 0 1", "-12"}, {"shift 1 1 1 0 6", "-13"}, {"shift 1 0 1 1 6", "-13"}, {"shift 1 0 1 1 -1", "-13"},
            {"taken 6 0", "-1"}, {"taken 5 0", "-11"}, {"taken 0 6", "-12"}, {"trace 14", "-1"}, {"count 9", "-1"},
            {"element 6 0", "-9223372036854775808"}, {"element 5 0", "-9223372036854775808"}, {"element 0 0", "-9223372036854775808"},
            {"element 1 6", "-9223372036854775808"}};
        for (String[] r : refused) {
            if (!r[0].equals("strike")) {
                refused(r[0], Long.parseLong(r[1]));
            }
        }
        on(HOUSE + ", runaway 0, runaway 1");
        refused("strike", NOT);
        refused("ring", NOT);
        on(HOUSE + ", undo, undo, undo");
        refused("undo", STATE);
        on(HOUSE + ", redo");
        refused("redo", STATE);
        on("person 3, person 9, debt 1 112, ask 0 4, go 1 5, feed 1, mend 0 0 9, undo");
        refused("back", STATE);
        on(HOUSE + ", 5* person 1, 15* debt 1 112, 25* ask 0 9, 47* body 1, 117* feed 1");
        refused("person 1", FULL);
        refused("debt 1 112", FULL);
        refused("ask 0 9", FULL);
        refused("body 1", FULL);
        refused("feed 1", FULL);
    }

    // Two objects share nothing: what is done to one can't be seen in the other.
    private static void memory() {
        sentence(TERMS, "All memory is the class's own.");
        on("");
        OwedDays other = new OwedDays();
        other.person(7);
        other.person(7);
        other.debt(1, 112);
        other.mend(0, 0, 9);
        other.feed('d');
        other.law();
        other.row(0, 3, 60);
        other.put(0, 0, 77);
        other.body(3);
        other.act(0, 3, 1);
        other.image();
        other.go(1, 9);
        for (int what = 0; what <= 8; what++) {
            due("count " + what, 0);
        }
        due("back", STATE);
        due("undo", STATE);
        due("of 0 20", 5);
        due("row 0 3 1", 1);
        due("element 0 0", 0);
        due("law", -100);
        due("person 3", 0);
        due("person 9", 1);
        due("worth 1 22", 15);
        same("free 0 47", 33);
    }

    private static void keep() {
        sentence(34, "A SHELF holds nothing (body -1), or a DAY: 1.");
        on("body 3, body 6");
        due("keep 5 0", 1);
        same("taken 5 0", 3);
        due("keep 5 1", 1);
        same("taken 5 0", 6);
        due("keep 5 -1", 1);
        refused("taken 5 0", NOTHING);
        due("keep 0 -1", 1);
        refused("taken 0 0", NOTHING);
        also("row 0 0 3, put 0 1 7");
        due("keep 0 0", 1);
        refused("element 0 1", REFUSED);
        refused("put 0 1 1", OTHER);
        same("taken 0 3", 3);
        due("row 0 0 3", 1);
        same("element 0 1", 0);
        due("keep 0 -1", 1);
        refused("put 0 0 1", NOTHING);
        same("debts 0 0 1", 0);
        sentence(34, "BAD.");
        on("body 3, keep 0 0, row 1 0 3");
        String[] bad = {"6 0", "-1 0", "MAX 0", "MIN 0", "0 1", "0 -2", "0 50", "0 MAX", "0 MIN", "1 1", "6 -1", "-1 -1"};
        for (String b : bad) {
            refused("keep " + b, BAD);
        }
        on("");
        refused("keep 0 0", BAD);
    }

    private static void row() {
        sentence(35, "A SHELF holds a ROW: 1.");
        for (int sort = 0; sort < 5; sort++) {
            due("row 0 " + sort + " 60", 1);
            same("element 0 59", 0);
            due("put 0 59 1", 1);
            due("row 5 " + sort + " 0", 1);
            refused("put 5 0 1", NOWHERE);
        }
        also("put 0 0 1, put 0 3 1, put 0 4 1");
        due("row 0 1 4", 1);
        same("element 0 0", 0);
        same("element 0 3", 0);
        refused("element 0 4", REFUSED);
        due("row 0 1 5", 1);
        same("element 0 4", 0);
        also("body 0, keep 0 0");
        due("row 0 2 1", 1);
        refused("taken 0 0", OTHER);

        sentence(35, "BAD (sort, n above 60); -14.");
        on("fill 0 1 7 8 9, body 0, keep 1 0");
        String[] bad = {"6 0 1", "-1 0 1", "MAX 0 1", "MIN 0 1", "0 5 1", "0 -1 1", "0 MAX 1", "0 MIN 1", "0 0 61", "0 4 MAX", "0 5 -1", "6 0 -1",
            "0 -1 -1", "1 0 61"};
        for (String b : bad) {
            refused("row " + b, BAD);
        }
        refused("row 0 0 -1", BELOW);
        refused("row 0 1 -1", BELOW);
        refused("row 1 4 MIN", BELOW);
        refused("row 2 3 -60", BELOW);
    }

    private static final String PLACES = "body 0, keep 1 0, fill 0 2 7 8 9, row 3 2 0";

    private static void put() {
        sentence(36, "Element i of a ROW becomes v: 1.");
        on(PLACES);
        due("put 0 0 -5", 1);
        due("put 0 2 6", 1);
        same("element 0 0", -5);
        same("element 0 1", 8);
        same("element 0 2", 6);
        sentence(36, "BAD, -11, -12, -13.");
        on(PLACES);
        String[] shelves = {"6", "-1", "MAX", "MIN"};
        for (String shelf : shelves) {
            refused("put " + shelf + " 0 1", BAD);
            refused("put " + shelf + " 9 1", BAD);
        }
        refused("put 2 0 1", NOTHING);
        refused("put 2 -1 1", NOTHING);
        refused("put 1 0 1", OTHER);
        refused("put 1 99 1", OTHER);
        String[] places = {"3", "-1", "60", "MAX", "MIN"};
        for (String place : places) {
            refused("put 0 " + place + " 1", NOWHERE);
        }
        refused("put 3 0 1", NOWHERE);
    }

    private static void element() {
        sentence(37, "Element i of a ROW; Long.MIN_VALUE: BAD, -11 to -13.");
        on(PLACES);
        same("element 0 0", 7);
        same("element 0 1", 8);
        same("element 0 2", 9);
        String[] none = {"6 0", "-1 0", "MAX 0", "MIN 0", "2 0", "2 -1", "1 0", "1 99", "0 3", "0 -1", "0 60", "0 MAX", "0 MIN", "3 0"};
        for (String n : none) {
            refused("element " + n, REFUSED);
        }
        on("row 0 3 1, put 0 0 LONGMIN");
        same("element 0 0", Long.MIN_VALUE);
    }

    private static void elements(int shelf, int... elements) {
        for (int i = 0; i < elements.length; i++) {
            same("element " + shelf + " " + i, elements[i]);
        }
        refused("element " + shelf + " " + elements.length, REFUSED);
    }

    private static void shift() {
        String rows = "body 0, keep 3 0, fill 0 2 1 2 3 4 5, fill 1 2 9 8 7, fill 2 1 6 6 6, row 5 2 0";
        sentence(38, "n elements of a ROW from i on come to another one (or the same) from j on, as they all were before: n.");
        on(rows);
        due("shift 0 1 1 0 2", 2);
        elements(1, 2, 3, 7);
        elements(0, 1, 2, 3, 4, 5);
        due("shift 0 0 0 1 4", 4);
        elements(0, 1, 1, 2, 3, 4);
        due("shift 0 2 0 0 3", 3);
        elements(0, 2, 3, 4, 3, 4);
        due("shift 1 0 0 2 3", 3);
        elements(0, 2, 3, 2, 3, 7);
        same("shift 0 0 0 0 5", 5);
        same("shift 0 5 1 3 0", 0);
        same("shift 0 0 5 0 0", 0);
        same("shift 5 0 0 5 0", 0);
        for (int sort = 0; sort < 5; sort++) {
            on("row 0 " + sort + " 60, put 0 0 1, put 0 59 1, row 1 " + sort + " 60");
            due("shift 0 0 1 0 60", 60);
            same("element 1 0", 1);
            same("element 1 59", 1);
            same("element 1 1", 0);
        }

        sentence(38, "BAD, -11 (either), -12 (no ROWS, or of unlike sorts), -13.");
        on(rows);
        String[] bad = {"6 0 0 0 1", "-1 0 0 0 1", "0 0 6 0 1", "0 0 -1 0 1", "MAX 0 4 0 1", "4 0 MIN 0 1", "3 0 6 0 1"};
        for (String b : bad) {
            refused("shift " + b, BAD);
        }
        String[] nothing = {"4 0 0 0 1", "0 0 4 0 1", "4 0 4 0 1", "3 0 4 0 1", "4 0 3 0 1", "4 9 0 9 9"};
        for (String n : nothing) {
            refused("shift " + n, NOTHING);
        }
        String[] other = {"3 0 0 0 1", "0 0 3 0 1", "3 0 3 0 1", "3 0 3 0 0", "0 0 2 0 1", "2 0 0 0 1", "0 9 2 0 1", "0 0 2 0 0", "0 0 2 0 -1"};
        for (String o : other) {
            refused("shift " + o, OTHER);
        }
        String[] places = {"0 -1 1 0 1", "0 0 1 -1 1", "0 0 1 0 -1", "0 6 1 0 0", "0 0 1 4 0", "0 5 1 0 1", "0 0 1 3 1", "0 0 1 0 4", "0 3 1 0 3",
            "0 0 1 1 3", "0 MAX 1 0 1", "0 0 1 MAX 1", "0 1 1 0 MAX", "0 0 1 0 MAX", "0 MAX 1 MAX MAX", "0 MIN 1 0 1", "0 0 1 MIN 1",
            "0 0 1 0 MIN", "0 0 5 0 1", "5 0 0 0 1", "0 0 0 1 5", "0 1 0 0 5", "0 -1 1 0 0", "0 0 1 -1 0"};
        for (String p : places) {
            refused("shift " + p, NOWHERE);
        }
    }

    private static void taken() {
        sentence(39, "What a SHELF holds, taken for a DAY of KIND k (0 .. 7), or under it: its KIND.");
        on("body 7, body 0, keep 0 0, keep 5 1");
        same("taken 0 7", 7);
        same("taken 0 4", 7);
        same("taken 0 1", 7);
        same("taken 0 0", 7);
        same("taken 5 0", 0);
        sentence(39, "BAD, -11, -12.");
        on("body 7, body 0, keep 0 0, keep 5 1, row 1 0 3");
        String[] bad = {"0 8", "0 -1", "0 MAX", "0 MIN", "6 0", "-1 0", "MAX 0", "MIN 0", "2 8", "1 8", "6 8"};
        for (String b : bad) {
            refused("taken " + b, BAD);
        }
        refused("taken 2 0", NOTHING);
        refused("taken 2 7", NOTHING);
        String[] other = {"0 2", "0 3", "0 5", "0 6", "5 1", "5 7", "1 0", "1 7"};
        for (String o : other) {
            refused("taken " + o, OTHER);
        }
    }

    private static void count() {
        sentence(40, "How many: 0 PEOPLE, 1 DEBTS (OPEN or not), 2 OPEN ones, 3 ASKS, 4 NOW, 5 bytes on THE TAPE, 6 changes that may be UNDONE,"
            + " 7 BODIES, 8 bodies that ran in the latest act() (all, kept or not).");
        on("3* person 1, debt 1 112, debt 12 112, runaway 0, ask 1 4, ask 1 4, ask 1 5, ask 1 6, feed 1, feed 2, feed 3, feed 4, feed 5,"
            + " mend 0 0 9, mend 0 0 9, mend 0 0 8, mend 0 2 1, mend 0 3 12, mend 1 0 1, mend 2 0 1, undo, 7* body 7, act 0 3 1, go 1 6");
        int[] counts = {3, 2, 1, 4, 6, 5, 5, 7, 14};
        for (int what = 0; what < 9; what++) {
            same("count " + what, counts[what]);
        }
        also("undo");
        same("count 6", 4);
        also("law, act 9 9 9, runaway 1");
        same("count 5", 0);
        same("count 8", 0);
        same("count 2", 0);
        same("count 1", 2);
        on("8* person 1, 20* debt 1 112, 30* ask 0 4, 120* feed 1, 50* body 0");
        int[] most = {8, 20, 20, 30, 0, 120, 0, 50, 0};
        for (int what = 0; what < 9; what++) {
            same("count " + what, most[what]);
        }
        sentence(40, "BAD.");
        String[] bad = {"9", "-1", "MAX", "MIN"};
        for (String b : bad) {
            refused("count " + b, BAD);
        }
    }
}
