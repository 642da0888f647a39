/** Sentences of DOC.md on the tape, the law and what a day's work is worth: promises 7 to 9. */
final class SentencesOfLaw extends Sentences {
    static void all() {
        linesAndTheirGrammar();
        operands();
        whatIsOpen();
        values();
        linesThatCount();
        faults();
        worthOfADay();
        feed();
        law();
        worth();
    }

    // The law's answer for a TEXT on a new object: 1, or -100 less its FAULT.
    private static void text(String text, int want) {
        on("");
        for (char letter : text.toCharArray()) {
            also("feed " + (int) letter);
        }
        due("law", want);
    }

    private static void isText(String... texts) {
        for (String text : texts) {
            text(text, 1);
        }
    }

    private static void faultAt(int place, String... texts) {
        for (String text : texts) {
            text(text, -100 - place);
        }
    }

    // What person 0 (SKILL 3) is worth to person 1 (SKILL 9) on DAY 22 (MONTH 5, LIGHT 7) by a TEXT.
    private static void value(String text, int worth) {
        on(TWO + ", mend 5 0 7");
        due("text " + text, 1);
        due("worth 1 22", worth);
    }

    private static void linesAndTheirGrammar() {
        sentence(TERMS, "THE LAW is a TEXT by THE TAPE (at most 120 bytes): LINES, one or more, parted by ; .");
        isText("d", "d;m", "1;2;3;4;5;6;7;8;9;0");
        faultAt(0, "", ";", ";d");
        faultAt(2, "d;", "d;;", "d;;m");
        String sixty = "1" + "+1".repeat(59);
        on(TWO);
        due("text " + sixty, 1);
        due("worth 1 22", 60);
        due("text -" + sixty, 1);
        due("worth 1 22", 58);
        on("bytes " + "d".repeat(120));
        refused("feed 100", FULL);
        due("text ", -101);
        on(TWO);
        due("text " + "0?1;".repeat(29) + "7", 1);
        due("worth 1 22", 7);

        sentence(TERMS, "LINE: E, or E ? E (what counts if the first is not 0).");
        isText("d?m", "d|m?m|d", "d?m;l?s;p", "(d)?(m)");
        faultAt(0, "?", "?d");
        faultAt(2, "d?", "d??", "d?;m", "(d?m)", "(d;m)");
        faultAt(3, "d?m?l", "d?m?");
        value("1?7", 7);
        value("-1?7", 7);
        value("0?7", 0);
        value("5-5?7", 0);
        value("d?m?", 5, 3);

        sentence(TERMS, "E = A { | A }. A = B { & B }. B = S, or S < S, S = S, S > S. S = P { + P, - P }. P = O { * O, / O, % O }.");
        isText("d|m|l|s", "d&m&l&s", "d<m", "d=m", "d>m", "d+m-l+s-p", "d*m/l%s*p", "d<m&l>s|p=q", "(d<m)<l", "d<(m<l)", "d=m|l=s",
            "(d|m)*(l&s)", "d+m<l*s", "d-m=l%s");
        faultAt(3, "d<m<l", "d<m=l", "d<m>l", "d=m<l", "d=m=l", "d=m>l", "d>m<l", "d>m=l", "d>m>l");
        faultAt(5, "d<m+1<l", "d+1<m<l", "d<m*2=l", "d|m<l=s", "d&m>l<s");
        faultAt(4, "(d<m=l)");
        faultAt(2, "d|", "d&", "d<", "d+", "d-", "d*", "d/", "d%", "d||m", "d&&m", "d<>m", "d+*m", "d*/m", "d|&m", "d<=m", "d=)");
        faultAt(0, "|d", "&d", "<d", "=d", ">d", "+d", "*d", "/d", "%d", ")", ")d");
        value("1|0&0", 1);
        value("(1|0)&0", 0);
        value("(1|0)+5", 6);
        value("(0|0)+5", 5);
        value("(0|1)*7", 7);
        value("(1&1)+5", 6);
        value("(2<3)+5", 6);
        value("(2+3)*5", 25);
        value("5&6=6", 1);
        value("6=6&0", 0);
        value("1<2&3>2", 1);
        value("1+1=2", 1);
        value("2=1+1", 1);
        value("3<2+2", 1);
        value("3=1|3", 1);
        value("1+2*3", 7);
        value("2*3+1", 7);
        value("(1+2)*3", 9);
        value("9-7/2", 6);
        value("9-7%2", 8);
        value("20-5-3", 12);
        value("20-5+3", 18);
        value("90/4/5", 4);
        value("90%50%7", 5);
        value("2*9%5", 3);
        value("9%5*2", 8);
        value("9/5*2", 2);
        value("20-(5-3)", 18);
        value("90/(4/2)", 45);
    }

    // A value by the TEXT without its last bytes, as the whole has a FAULT there.
    private static void value(String text, int worth, int fault) {
        on(TWO + ", mend 5 0 7");
        due("text " + text, -100 - fault);
        due("text " + text.substring(0, fault), 1);
        due("worth 1 22", worth);
    }

    private static void operands() {
        sentence(TERMS, "O = a number (1 to 4 digits), a NAME, ! O, - O, ( E ). No blanks.");
        isText("0", "9", "12", "123", "1234", "9999", "0000", "0001", "d", "!d", "-d", "(d)", "!-!-d", "((d))", "(!d)", "-(d)", "-1234",
            "(1234)", "1+1234");
        faultAt(4, "12345", "00000", "99999", "1234d", "1234(");
        faultAt(5, "-12345", "(12345)");
        faultAt(6, "1+12345", "d+1234d");
        faultAt(1, "1d", "d1", "dm", "dd", "d(", "d!", "1!", "1(", "()", "!", "-", "(", "!)", "-)", "-+d", "!*d", "(|d)");
        faultAt(3, "(d)1", "(d)d", "(d)(", "(d)!", "(1)1", "(d))");
        faultAt(2, "(d", "(1", "!(", "-(", "-!", "!-");
        faultAt(0, " d", " ", "x", "D", "a", "z", "c", "e", "k", "n", "o", "r", "t", ":", "~", "#");
        faultAt(1, "d ", "1 2", "d +m", "d~", "d!=m", "d:");
        on("");
        for (int letter = 0; letter < 256; letter++) {
            on("feed " + letter);
            due("law", "0123456789dmlspq".indexOf(letter) >= 0 ? 1 : "(!-".indexOf(letter) >= 0 ? -101 : -100);
            on("feed 100, feed " + letter);
            due("law", "|&<=>+-*/%?;".indexOf(letter) >= 0 ? -102 : -101);
        }
        value("12", 12);
        value("0012", 12);
        value("9999-9990", 9);
        value("1234-1200", 34);

        sentence(TERMS, "NAMES: d the DAY, m its MONTH, l LIGHT in it, s SKILL of who works, p who works, q for whom.");
        value("d", 22);
        value("m", 5);
        value("l", 7);
        value("s", 3);
        value("p", 0);
        value("q", 1);
        on("person 1, person 2, person 3, person 4, person 5, person 6, person 7, person 8, mend 11 0 9, mend 0 0 1");
        int[][] named = {{76, 47, 'd', 47}, {76, 47, 'm', 11}, {76, 47, 'l', 9}, {76, 47, 's', 8}, {76, 47, 'p', 7}, {76, 47, 'q', 6},
            {67, 0, 'd', 0}, {67, 0, 'm', 0}, {67, 0, 'l', 1}, {67, 0, 's', 7}, {67, 0, 'p', 6}, {67, 0, 'q', 7}, {10, 3, 'm', 0},
            {10, 4, 'm', 1}, {10, 3, 'l', 1}, {10, 4, 'l', 5}};
        for (int[] n : named) {
            also("feed " + n[2] + ", law");
            same("worth " + n[0] + " " + n[1], n[3]);
        }
    }

    private static void whatIsOpen() {
        sentence(TERMS, "At most 6 of ( ! - ahead of an O are open at once.");
        isText("------d", "!!!!!!d", "((((((d))))))", "!-(!-(d))", "(!(-(!d)))");
        faultAt(6, "-------d", "!!!!!!!d", "(((((((d", "!-(!-(-d))", "!-(!-((d)))", "(((((((", "------(d)", "((((((!d");
        isText("!d+!d+!d+!d+!d+!d+!d+!d", "(d)*(d)*(d)*(d)*(d)*(d)*(d)", "(d);(d);(d);(d);(d);(d);(d)", "!d?!d;!d?!d;!d?!d;!d?!d",
            "----(-d)----(-d)", "(-----d+-----d)--d", "((((((d)))))|(d))", "d-------m", "(!d&!d|!d<!d)*(((((1)))))");
        faultAt(8, "d--------m");
        faultAt(10, "d*d+-------d", "d*d&-------d", "d*d;-------d");
        faultAt(12, "(d*d)-(((((((d", "(d|d)+!!!!!!!d");
        faultAt(13, "(-----d+------d)");
        faultAt(18, "((((((d)))))|((((((d");
        text("((((((", -106);
        value("------5", 5);
        value("-----5+9", 4);
        value("!!!!!!5", 1);
        value("((((((5))))))", 5);
    }

    private static void values() {
        sentence(TERMS, "Ints that wrap; / and % toward 0, by 0 they give 0; | & < = > ! give 1, 0; all is worked out.");
        value("9999*9999*9999%100+99", 30);
        value("9999*9999*22/9999/1", 0);
        value("-(9999*9999*22)/9999/1000/10", 20);
        String most = "2147*1000*1000+483*1000+647";
        value("(" + most + "+1<0)*9", 9);
        value("(-(" + most + ")-2>0)*9", 9);
        value("(-(" + most + ")-1)/-1<0", 1);
        value("(-(" + most + ")-1)%-1+7", 7);
        value("-(-(" + most + ")-1)<0", 1);
        value("50+-7/2", 47);
        value("50+7/-2", 47);
        value("50+-7/-2", 53);
        value("50+-7%4", 47);
        value("50+7%-4", 53);
        value("7/0+1", 1);
        value("7%0+1", 1);
        value("-7/0+1", 1);
        value("0/0+1", 1);
        value("0%0+1", 1);
        value("7/(1-1)+7%(d-22)+2", 2);
        int[][] signs = {{'|', 1, 1, 1, 0}, {'&', 1, 0, 0, 0}, {'<', 0, 0, 1, 0}, {'=', 0, 0, 0, 1}, {'>', 1, 1, 0, 0}};
        for (int[] sign : signs) {
            value("5" + (char) sign[0] + "3", sign[1]);
            value("5" + (char) sign[0] + "0", sign[2]);
            value("0" + (char) sign[0] + "5", sign[3]);
            value("0" + (char) sign[0] + "0", sign[4]);
        }
        value("5=5", 1);
        value("5<5", 0);
        value("5>5", 0);
        value("-5<5", 1);
        value("-5>5", 0);
        value("-5|0", 1);
        value("-5&-3", 1);
        value("!0", 1);
        value("!7", 0);
        value("!-1", 0);
        value("!!7", 1);
        value("!0+1", 2);
        value("!(0+1)", 0);
        value("-2+5", 3);
        value("-2*-3", 6);
        value("-(2-5)", 3);
    }

    private static void linesThatCount() {
        sentence(TERMS, "The first LINE without a first E, or whose first E is not 0, counts; none: 0.");
        value("6;7", 6);
        value("0;7", 0);
        value("0?7;8", 8);
        value("1?7;8", 7);
        value("-1?7;8", 7);
        value("0|1?7;8", 7);
        value("0|0?7;8", 8);
        value("1&0?7;8", 8);
        value("2=2?7;8", 7);
        value("1|0;8", 1);
        value("1+1;8", 2);
        value("0?1+1;8", 8);
        value("1?2|0;8", 1);
        value("0?7;0?8;9", 9);
        value("0?7;1?8;9", 8);
        value("0?7;d=22?8;9", 8);
        value("0?7;6;9", 6);
        value("0;1?7", 0);
        value("1?0;7", 0);
        value("0?7", 0);
        value("0?7;0?8", 0);
        value("0?7;d<22?8;m>5?9", 0);
        String[] longer = {"0?!7", "1?2;3;4", "0?1+2*3;5", "9;8"};
        for (String law : longer) {
            on(TWO + ", text " + law + ", text 0?7");
            same("worth 1 22", 0);
            on(TWO + ", text " + law + ", text 6");
            same("worth 1 22", 6);
        }
    }

    private static void faults() {
        sentence(TERMS, "FAULT: the place (from 0) of the first byte with which no TEXT goes on; the length, if it ends too early.");
        faultAt(0, "", "x", ")))");
        faultAt(1, "(", "!", "-", "d)", "d)x");
        faultAt(2, "d+", "d?", "d;", "d+x", "d?x", "(d", "((x");
        faultAt(3, "d+m)", "(d+", "d?m?", "(d)x");
        faultAt(4, "d?m;", "12345", "d?m;;");
        on("bytes " + "1" + "+1".repeat(59));
        due("text +", -220);
        on("bytes " + "1" + "+1".repeat(59));
        due("text )", -219);
    }

    private static void worthOfADay() {
        sentence(TERMS, "It gives what that day's work is worth (held within 0 .. 99).");
        value("98", 98);
        value("99", 99);
        value("100", 99);
        value("9999*9999", 99);
        value("0", 0);
        value("1", 1);
        value("-1", 0);
        value("-9999*9999", 0);
        value("9999*9999*22", 0);
        value("-(9999*9999*22)", 99);

        sentence(TERMS, "Without a text l times s.");
        on(TWO + ", mend 5 0 7, mend 6 0 9, mend 7 0 1");
        same("worth 1 22", 21);
        same("worth 10 22", 63);
        same("worth 10 24", 81);
        same("worth 1 28", 3);
        also("bytes dd");
        due("law", -101);
        same("worth 1 22", 21);
    }

    private static void feed() {
        sentence(7, "A byte (0 .. 255) comes to THE TAPE: how many it has.");
        due("feed 0", 1);
        due("feed 255", 2);
        due("feed 100", 3);
        same("count 5", 3);
        refused("feed -1", BAD);
        refused("feed 256", BAD);
        refused("feed MAX", BAD);
        refused("feed MIN", BAD);

        sentence(7, "BAD, FULL (120).");
        on("119* feed 49");
        refused("feed 256", BAD);
        due("feed 43", 120);
        refused("feed 49", FULL);
        refused("feed 0", FULL);
        refused("feed -1", BAD);
        refused("feed 256", BAD);
        due("law", -104);
        due("feed 49", 1);
    }

    private static void law() {
        sentence(8, "THE TAPE becomes THE LAW: 1; -100 less its FAULT; THE TAPE is empty then.");
        on(TWO + ", bytes d");
        due("law", 1);
        same("count 5", 0);
        same("worth 1 22", 22);
        due("law", -100);
        same("worth 1 22", 22);
        also("bytes 7+");
        due("law", -102);
        same("count 5", 0);
        same("worth 1 22", 22);
        due("text 12345", -104);
        same("worth 1 22", 22);
        due("text 7", 1);
        same("worth 1 22", 7);
        due("text ((((((d", -107);
        due("text ((((((8))))))", 1);
        same("worth 1 22", 8);
        due("text d)", -101);
        due("text d?", -102);
        due("text d?9", 1);
        same("worth 1 22", 9);
        same("worth 1 0", 0);
    }

    private static void worth() {
        sentence(9, "What a DAY's work of p for q is worth (pq unlike).");
        on("person 1, person 2, person 3, person 4, person 5, person 6, person 7, person 9, bytes 8*p+q, law");
        for (int p = 0; p < 8; p++) {
            for (int q = 0; q < 8; q++) {
                same("worth " + p + q + " 8", p == q ? BAD : 8 * p + q);
            }
        }
        on("person 1, person 9, go 1 20");
        same("worth 10 0", 45);
        same("worth 10 3", 45);
        same("worth 10 47", 45);

        sentence(9, "BAD.");
        on(TWO);
        String[] bad = {"1 -1", "1 48", "1 MAX", "1 MIN", "0 0", "11 0", "2 0", "20 0", "-1 0", "-10 0", "12 0", "100 0", "MAX 0", "MIN 0",
            "11 48"};
        for (String b : bad) {
            refused("worth " + b, BAD);
        }
    }
}
