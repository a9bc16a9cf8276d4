/** Promises 28 to 32: the tape, ACTS, their FAULTS, and THE CODE of a YEAR as it's WRITTEN. */
public final class CodeTest {
    private static final Checks c = new Checks();

    public static void main(String[] args) {
        feed();
        act();
        actLimits();
        actInForce();
        fault();
        faultOfBodies();
        faultOfConditions();
        faultOfNumbers();
        faultOfStatements();
        faultOfTokens();
        written();
        writtenConditions();
        clause();
        sixtyClauses();
        c.end();
    }

    private static void feed() {
        c.of("28 feed");
        SchoolBoard x = new SchoolBoard();
        c.due("first", 20, x.feed(0, 0, 0, 0, 0));
        for (int i = 2; i <= 40; i++) {
            c.due("feed " + i, 20 * i, x.feed(-1, -1, -1, -1, -1));
        }
        c.due("800 are there", -1, x.feed(0, 0, 0, 0, 0));
        c.due("count(12)", 800, x.count(12));
        SchoolBoard y = new SchoolBoard();
        // "omit 7;" with the highest byte first, then another text behind it.
        y.feed(0x6f6d6974, 0x20373b20, 0x20202020, 0x20202020, 0x20202020);
        y.feed(0x636c6175, 0x73652037, 0x3a68616c, 0x663b2020, 0x20202020);
        c.due("both as one ACT", 0, y.act(40, 0));
        c.text("the CODE", "clause 7:half;", Checks.written(y, 0));
    }

    private static void act() {
        c.of("29 act");
        SchoolBoard x = new SchoolBoard();
        c.due("no bytes: an empty ACT", 0, x.act(0, 0));
        c.due("n 1 of none", -2, x.act(1, 0));
        Checks.feed(x, "clause 3: cap 5;");
        c.due("n -1", -2, x.act(-1, 0));
        c.due("n 21 of 20", -2, x.act(21, 0));
        c.due("year 8", -2, x.act(16, 8));
        c.due("year -1", -2, x.act(16, -1));
        c.due("the tape stays", 20, x.count(12));
        c.due("in YEAR 7", 1, x.act(16, 7));
        c.due("the tape is empty", 0, x.count(12));
        c.due("count(5)", 2, x.count(5));
        c.due("not ahead of 7", 0, x.clause(6, -1, 0));
        c.due("in 7", 1, x.clause(7, -1, 0));
        x.day(200);
        Checks.feed(x, "clause 4: cap 5;");
        c.due("ahead of TODAY's YEAR", -2, x.act(16, 1));
        c.due("a part of it is a FAULT", -1, x.act(15, 2));
        c.due("the tape is empty then too", 0, x.count(12));
        c.due("no ACT came of it", 2, x.count(5));
        c.due("and no clause", 0, x.clause(2, -1, 0));
    }

    private static void actLimits() {
        c.of("29 act, eight of them");
        SchoolBoard x = new SchoolBoard();
        for (int i = 0; i < 8; i++) {
            c.due("act " + i, i, Checks.act(x, i, "clause " + (i + 1) + ": room " + i + ";"));
        }
        Checks.feed(x, "nonsense");
        c.due("n beyond comes first", -2, x.act(999, 0));
        c.due("the ninth", -3, x.act(8, 0));
        c.due("the tape stays", 20, x.count(12));
        c.due("fault() is of the eighth", -1, x.fault());
        c.due("count(5)", 8, x.count(5));
    }

    private static void actInForce() {
        c.of("29 act, in force by YEARS");
        SchoolBoard x = new SchoolBoard();
        Checks.act(x, 2, "clause 1: cap 2; clause 2: cap 22; omit 3;");
        Checks.act(x, 0, "clause 1: cap 0; clause 3: cap 3; clause 1: cap 1; omit 9;");
        Checks.act(x, 2, "omit 2; clause 4: cap 4;");
        Checks.act(x, 1, "clause 2: cap 11; omit 1;");
        c.text("YEAR 0", "clause 1:cap 1;clause 3:cap 3;", Checks.written(x, 0));
        c.text("YEAR 1", "clause 2:cap 11;clause 3:cap 3;", Checks.written(x, 1));
        c.text("YEAR 2, by YEARS and as they came", "clause 1:cap 2;clause 4:cap 4;", Checks.written(x, 2));
        c.text("YEAR 7", "clause 1:cap 2;clause 4:cap 4;", Checks.written(x, 7));
        c.due("from which ACT", 0, x.clause(2, 0, 1));
        c.due("from which ACT", 2, x.clause(2, 1, 1));
        c.due("from which ACT", 1, x.clause(0, 0, 1));
        c.due("from which ACT", 3, x.clause(1, 0, 1));
    }

    private static void fault() {
        c.of("30 fault");
        SchoolBoard x = new SchoolBoard();
        c.due("no act yet", -1, x.fault());
        c.due("a FAULT", -1, Checks.act(x, 0, "clause 1: cap;"));
        c.due("its place", 13, x.fault());
        c.due("-2 leaves it", -2, x.act(5, 0));
        c.due("its place", 13, x.fault());
        c.due("a sound one", 0, Checks.act(x, 0, "clause 1: cap 3;"));
        c.due("none then", -1, x.fault());
        c.due("empty", -1, Checks.faultOf(""));
        c.due("blanks", -1, Checks.faultOf(" \n  \n"));
    }

    private static void faultOfBodies() {
        c.of("30 fault, bodies");
        String[] sound = {"count present as 2", "count late as 0 if age<1", "count work as 1", "excuse 5 as 2 if year=0",
            "attend 9999 if quarters>3", "pass 5 needs 100 if mark=1", "rise 0 if poor=1", "grant 5 per head if year=1",
            "grant 5 per child if timer=0", "grant 0 per pass 5 if subject=5", "cap 0", "fee 9 if standard=6",
            "half", "half if half=0", "room 9999", "staff 0", "step 100", "pay 9999 is 9999", "teach 5 is 0", "small 500"};
        for (String body : sound) {
            c.due(body, -1, Checks.faultOf("clause 60:" + body + ";"));
        }
        String[] noIf = {"cap 1", "room 1", "staff 1", "step 1", "pay 1 is 1", "teach 1 is 1", "small 1"};
        for (String body : noIf) {
            c.due(body + " if", 9 + body.length() + 1, Checks.faultOf("clause 1:" + body + " if age=1;"));
        }
        c.due("count absent", 15, Checks.faultOf("clause 1:count absent as 1;"));
        c.due("count as", 15, Checks.faultOf("clause 1:count as 1;"));
        c.due("count present is", 23, Checks.faultOf("clause 1:count present is 1;"));
        c.due("count present as 3", 26, Checks.faultOf("clause 1:count present as 3;"));
        c.due("excuse 6", 16, Checks.faultOf("clause 1:excuse 6 as 1;"));
        c.due("excuse 1 as 3", 21, Checks.faultOf("clause 1:excuse 1 as 3;"));
        c.due("pass 6", 14, Checks.faultOf("clause 1:pass 6 needs 1;"));
        c.due("pass 1 is", 16, Checks.faultOf("clause 1:pass 1 is 1;"));
        c.due("grant per", 15, Checks.faultOf("clause 1:grant per head;"));
        c.due("grant 1 head", 17, Checks.faultOf("clause 1:grant 1 head;"));
        c.due("grant 1 per half", 21, Checks.faultOf("clause 1:grant 1 per half;"));
        c.due("grant 1 per pass", 25, Checks.faultOf("clause 1:grant 1 per pass;"));
        c.due("grant 1 per pass 6", 26, Checks.faultOf("clause 1:grant 1 per pass 6;"));
        c.due("grant 1 per head 1", 26, Checks.faultOf("clause 1:grant 1 per head 1;"));
        c.due("teach 6", 15, Checks.faultOf("clause 1:teach 6 is 1;"));
        c.due("pay 1 needs", 15, Checks.faultOf("clause 1:pay 1 needs 1;"));
        c.due("half 1", 14, Checks.faultOf("clause 1:half 1;"));
        c.due("no body", 9, Checks.faultOf("clause 1:;"));
        c.due("a name for a body", 9, Checks.faultOf("clause 1:age 1;"));
        c.due("omit for a body", 9, Checks.faultOf("clause 1:omit 1;"));
    }

    private static void faultOfConditions() {
        c.of("30 fault, conditions");
        String start = "clause 1:half if ";
        int at = start.length();
        c.due("no part", at, Checks.faultOf(start + ";"));
        c.due("no sign", at + 3, Checks.faultOf(start + "age;"));
        c.due("no number", at + 4, Checks.faultOf(start + "age<;"));
        c.due("two signs", at + 4, Checks.faultOf(start + "age<=1;"));
        c.due("a word for a number", at + 4, Checks.faultOf(start + "age<age;"));
        c.due("head isn't a name", at, Checks.faultOf(start + "head=1;"));
        c.due("child isn't a name", at, Checks.faultOf(start + "child=1;"));
        c.due("no end", at + 6, Checks.faultOf(start + "age<1 clause 2:cap 1;"));
        c.due("or without a part", at + 8, Checks.faultOf(start + "age<1 or;"));
        c.due("or or", at + 9, Checks.faultOf(start + "age<1 or or"));
        c.due("and at first", at, Checks.faultOf(start + "and age<1;"));
        c.due("( never closed", at + 6, Checks.faultOf(start + "(age<1;"));
        c.due(") never opened", at + 5, Checks.faultOf(start + "age<1);"));
        c.due("()", at + 1, Checks.faultOf(start + "();"));
        c.due("not alone", at + 3, Checks.faultOf(start + "not;"));
        c.due("if twice", at, Checks.faultOf(start + "if age<1;"));
        c.due("a sound one", -1, Checks.faultOf(start + "not(not age<1 or(half=2)and poor>0);"));
        String ten = "not (not (not (not (not (";
        c.due("ten open", -1, Checks.faultOf(start + ten + "age=1)))));"));
        c.due("the eleventh (", at + ten.length(), Checks.faultOf(start + ten + "(age=1))))));"));
        c.due("the eleventh not", at + ten.length(), Checks.faultOf(start + ten + "not age=1)))));"));
        c.due("ten open, twice", -1, Checks.faultOf(start + ten + "age=1))))) and " + ten + "age=1)))));"));
        String nots = "not not not not not not not not not not ";
        c.due("ten nots", -1, Checks.faultOf(start + nots + "age=1 and " + nots + "age=1;"));
        c.due("eleven nots", at + nots.length(), Checks.faultOf(start + nots + "not age=1;"));
        c.due("a not behind a closed one", -1, Checks.faultOf(start + ten + "age=1) and not age=2))));"));
    }

    private static void faultOfNumbers() {
        c.of("30 fault, numbers");
        c.due("clause 0", 7, Checks.faultOf("clause 0:half;"));
        c.due("clause 61", 7, Checks.faultOf("clause 61:half;"));
        c.due("clause 60", -1, Checks.faultOf("clause 60:half;"));
        c.due("clause 0060", -1, Checks.faultOf("clause 0060:half;"));
        c.due("clause 00060", 7, Checks.faultOf("clause 00060:half;"));
        c.due("omit 0", 5, Checks.faultOf("omit 0;"));
        c.due("omit 61", 5, Checks.faultOf("omit 61;"));
        c.due("omit 60", -1, Checks.faultOf("omit 60;"));
        c.due("five digits", 13, Checks.faultOf("clause 1:cap 10000;"));
        c.due("five digits of 1", 13, Checks.faultOf("clause 1:cap 00001;"));
        c.due("a long one", 13, Checks.faultOf("clause 1:cap 99999999999999999999;"));
        c.due("four digits", -1, Checks.faultOf("clause 1:cap 9999;"));
        c.due("in an IF", 21, Checks.faultOf("clause 1:half if age>12345;"));
        c.due("two numbers", 15, Checks.faultOf("clause 1:cap 1 2;"));
    }

    private static void faultOfStatements() {
        c.of("30 fault, statements");
        c.due("a word", 0, Checks.faultOf("half;"));
        c.due("a sign", 1, Checks.faultOf(" ;"));
        c.due("clause clause", 7, Checks.faultOf("clause clause 1:half;"));
        c.due("clause 1 half", 9, Checks.faultOf("clause 1 half;"));
        c.due("omit 1:", 6, Checks.faultOf("omit 1:half;"));
        c.due("two ends", 7, Checks.faultOf("omit 1;;"));
        c.due("more must come, no number", 6, Checks.faultOf("clause"));
        c.due("more must come, no colon", 8, Checks.faultOf("clause 1"));
        c.due("more must come, no body", 9, Checks.faultOf("clause 1:"));
        c.due("more must come, no end", 15, Checks.faultOf("clause 1:half  "));
        c.due("more must come behind omit", 6, Checks.faultOf("omit 1"));
        c.due("a word that is cut off", 9, Checks.faultOf("clause 1:hal"));
        String forty = "omit 1;".repeat(40);
        c.due("forty", -1, Checks.faultOf(forty + " \n"));
        c.due("the 41st", forty.length() + 1, Checks.faultOf(forty + " omit 1;"));
        c.due("the 41st, a clause", forty.length(), Checks.faultOf(forty + "clause 1:half;"));
        SchoolBoard x = new SchoolBoard();
        Checks.feed(x, "omit 1; omit 2;");
        c.due("the first n bytes alone", 0, x.act(7, 0));
    }

    private static void faultOfTokens() {
        c.of("30 fault, tokens");
        c.due("no blanks", -1, Checks.faultOf("clause1:count present as2if age>5or age<3;"));
        c.due("blanks", -1, Checks.faultOf("\n clause\n1 : pass  2\nneeds 3 if ( age\n< 5 ) ; "));
        c.due("two words in one", 0, Checks.faultOf("clauseomit 1;"));
        c.due("a longer word", 9, Checks.faultOf("clause 1:halfs;"));
        c.due("a word of nine letters", 17, Checks.faultOf("clause 1:half if standards=1;"));
        c.due("a capital", 0, Checks.faultOf("Clause 1:half;"));
        c.due("a capital within", 3, Checks.faultOf("omiT 1;".replace("omiT", "   T")));
        c.due("a tab", 6, Checks.faultOf("clause\t1:half;"));
        c.due("a return", 6, Checks.faultOf("clause\r1:half;"));
        c.due("a byte of 0", 7, Checks.faultOf("omit 1;\0"));
        c.due("a byte of 160", 4, Checks.faultOf("omit" + (char) 160 + "1;"));
        c.due("a byte of 225", 9, Checks.faultOf("clause 1:" + (char) 225 + "half;"));
        c.due("a point", 14, Checks.faultOf("clause 1:cap 1.5;"));
        c.due("a word cut by a byte", 9, Checks.faultOf("clause 1:ha-lf;"));
        c.due("800 signs", 0, Checks.faultOf(";".repeat(800)));
        c.due("800 letters", 0, Checks.faultOf("a".repeat(800)));
        c.due("800 digits", 5, Checks.faultOf("omit 1" + "1".repeat(794)));
        c.due("800 blanks", -1, Checks.faultOf(" ".repeat(800)));
        c.due("800 bytes, more must come", 800, Checks.faultOf("clause 1:half if age=1" + " or age=1".repeat(86) + "    "));
        c.due("a long IF", -1, Checks.faultOf("clause 1:half if age=1" + " or age=1".repeat(86) + "   ;"));
    }

    private static String rewritten(String text) {
        SchoolBoard x = new SchoolBoard();
        return Checks.act(x, 0, text) == 0 ? Checks.written(x, 0) : "fault " + x.fault();
    }

    private static void written() {
        c.of("31 written");
        c.text("by NUMBERS", "clause 2:half;clause 10:cap 7;clause 60:small 0;",
                rewritten("clause 60: small 0000; clause 10 :cap 007 ; clause 0002:\nhalf;"));
        c.text("all bodies", "clause 1:count present as 2;clause 2:count late as 1;clause 3:count work as 0;"
                + "clause 4:excuse 5 as 2;clause 5:attend 10;clause 6:pass 3 needs 40;clause 7:rise 2;",
                rewritten("clause 1:count present as 2;clause 2:count late as 01;clause 3:count work as 0;clause 4:excuse 5as 2;"
                        + "clause 5:attend 10;clause 6:pass 3needs 40;clause 7:rise 2;"));
        c.text("all bodies", "clause 8:grant 5 per head;clause 9:grant 6 per child;clause 10:grant 7 per pass 0;"
                + "clause 11:cap 1;clause 12:fee 2;clause 13:half;clause 14:room 3;clause 15:staff 4;clause 16:step 5;"
                + "clause 17:pay 1 is 2;clause 18:teach 2 is 3;clause 19:small 9;",
                rewritten("clause 8:grant 5per head;clause 9:grant 6 per child;clause 10:grant 7 per pass 0;clause 11:cap 1;"
                        + "clause 12:fee 2;clause 13:half;clause 14:room 3;clause 15:staff 4;clause 16:step 5;"
                        + "clause 17:pay 1is 2;clause 18:teach 2is 3;clause 19:small 9;"));
        SchoolBoard x = new SchoolBoard();
        Checks.act(x, 3, "clause 7:half;");
        c.due("how many", 14, x.written(3, -1));
        c.due("none in YEAR 2", 0, x.written(2, -1));
        c.due("byte 0", 'c', x.written(3, 0));
        c.due("byte 13", ';', x.written(3, 13));
        c.due("byte 14", -1, x.written(3, 14));
        c.due("byte -2", -1, x.written(3, -2));
        c.due("a byte far off", -1, x.written(3, Integer.MAX_VALUE));
        c.due("year 8", -1, x.written(8, -1));
        c.due("year -1", -1, x.written(-1, -1));
    }

    private static void condition(String want, String text) {
        c.text(text, "clause 1:half if" + (want.startsWith("(") ? "" : " ") + want + ";",
                rewritten("clause 1:half if " + text + ";"));
    }

    private static void writtenConditions() {
        c.of("31 written, brackets");
        condition("age<3", "((age<3))");
        condition("age<3 or half=1", "(age < 3) or (half = 01)");
        condition("age<3 or half=1 and poor>0", "age<3 or (half=1 and poor>0)");
        condition("(age<3 or half=1)and poor>0", "(age<3 or half=1) and poor>0");
        condition("poor>0 and(age<3 or half=1)", "poor>0 and (age<3 or half=1)");
        condition("age<1 or age<2 or age<3", "age<1 or (age<2 or age<3)");
        condition("age<1 and age<2 and age<3", "(age<1 and age<2) and (age<3)");
        condition("not age<1", "not (age<1)");
        condition("not not age<1", "not (not (age<1))");
        condition("not(age<1 or age<2)", "not (age<1 or age<2)");
        condition("not(age<1 and age<2)", "not ((age<1 and age<2))");
        condition("not age<1 and age<2", "(not age<1) and age<2");
        condition("not((age<1 or age<2)and age<3)", "not ((age<1 or age<2) and age<3)");
        condition("not(age<1 and age<2 or age<3)", "not ((age<1 and age<2) or age<3)");
        condition("(not age<1 or age<2)and not(age<3 or age<4)", "((not age<1 or age<2)) and not ((age<3) or age<4)");
        condition("age=1 and standard=2 and day=3 and year=4 and half=5 and excused=6",
                "age=1 and standard=2 and day=3 and year=4 and half=5 and excused=6");
        condition("timer=1 and passes=2 and quarters=3 and subject=4 and mark=5 and poor=9999",
                "timer=1 and passes=2 and quarters=3 and subject=4 and mark=5 and poor=9999");
    }

    private static void sixtyClauses() {
        c.of("31, 32 sixty clauses");
        SchoolBoard x = new SchoolBoard();
        x.school(0, 0, 0);
        for (int part = 0; part < 3; part++) {
            StringBuilder text = new StringBuilder();
            for (int number = part * 20 + 1; number <= part * 20 + 20; number++) {
                text.append("clause ").append(number).append(":grant 1 per head;");
            }
            c.due("act " + part, part, Checks.act(x, 0, text.toString()));
        }
        c.due("how many", 60, x.clause(7, -1, 0));
        c.due("the last", 60, x.clause(7, 59, 0));
        c.due("none behind it", -1, x.clause(7, 60, 0));
        c.due("its ACT", 2, x.clause(7, 59, 1));
        c.due("bytes", 9 * 26 + 51 * 27, x.written(7, -1));
        c.due("the last byte", ';', x.written(7, 9 * 26 + 51 * 27 - 1));
        c.due("none behind it", -1, x.written(7, 9 * 26 + 51 * 27));
        c.due("LINES of heads", 60, x.grant(0, 0, 7, 0, 5));
    }

    private static void clause() {
        c.of("32 clause");
        SchoolBoard x = new SchoolBoard();
        Checks.act(x, 0, "clause 9: half; clause 60: cap 1; clause 1: fee 2;");
        Checks.act(x, 1, "clause 9: half if age=1; omit 60; clause 2: cap 2; omit 60;");
        c.due("how many in 0", 3, x.clause(0, -1, 0));
        c.due("how many in 1, whatever is asked", 3, x.clause(1, -1, 99));
        int[][] due = {{1, 0}, {9, 0}, {60, 0}, {1, 0}, {2, 1}, {9, 1}};
        for (int i = 0; i < 6; i++) {
            c.due("NUMBER " + i, due[i][0], x.clause(i / 3, i % 3, 0));
            c.due("ACT " + i, due[i][1], x.clause(i / 3, i % 3, 1));
        }
        c.due("k 3", -1, x.clause(0, 3, 0));
        c.due("k 60 of YEAR 7", -1, x.clause(7, 60, 0));
        c.due("k -2", -1, x.clause(0, -2, 0));
        c.due("what 2", -1, x.clause(0, 0, 2));
        c.due("what -1", -1, x.clause(0, 0, -1));
        c.due("year 8", -1, x.clause(8, -1, 0));
        c.due("year -1", -1, x.clause(-1, -1, 0));
    }
}
