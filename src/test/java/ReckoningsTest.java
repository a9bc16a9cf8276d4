/** Promises 16 to 27: QUARTERS, STANDARDS, PASSES, GRANTS, FEES, ROOM and PUPIL TEACHERS. */
public final class ReckoningsTest {
    private static final Checks c = new Checks();

    public static void main(String[] args) {
        quarters();
        quartersAsk();
        quartersExcused();
        yearly();
        standard();
        standardRises();
        passes();
        grant();
        grantHeads();
        grantAsks();
        line();
        fees();
        feesAsk();
        pay();
        holds();
        teacher();
        proof();
        teacherOf();
        c.end();
    }

    private static SchoolBoard board(int children, int schools, String act) {
        SchoolBoard x = Checks.board(children, schools);
        if (!act.isEmpty() && Checks.act(x, 0, act) != 0) {
            c.due("a test's own act, its fault " + x.fault(), 0, -1);
        }
        return x;
    }

    private static void quarters() {
        c.of("16 quarters");
        SchoolBoard x = board(1, 1, "clause 4: count present as 1; clause 2: count present as 2 if half=1;"
                + "clause 9: count work as 1;");
        x.day(50);
        x.enter(0, 0, 10);
        x.mark(0, 0, 0, 40, 1, 1);
        x.mark(0, 20, 0, 20, 1, 2);
        x.mark(0, 21, 0, 21, 1, 3);
        c.due("not ON", 0, x.quarters(0, 9, 0, 0, 50));
        c.due("first by NUMBERS whose IF holds", 1, x.quarters(0, 10, 0, 0, 50));
        c.due("second half", 2, x.quarters(0, 10, 1, 0, 50));
        c.due("late, no count", 0, x.quarters(0, 20, 0, 0, 50));
        c.due("at work", 1, x.quarters(0, 21, 1, 0, 50));
        c.due("absent", 0, x.quarters(0, 41, 1, 0, 50));
        c.due("as KNOWN on 49", 0, x.quarters(0, 10, 0, 0, 49));
        x.shut(0, 12, 13);
        c.due("shut", 0, x.quarters(0, 12, 1, 0, 50));
        c.due("not yet", 2, x.quarters(0, 11, 1, 0, 50));
        Checks.act(x, 1, "clause 2: count present as 0; omit 4;");
        c.due("by the CODE of 0", 1, x.quarters(0, 10, 0, 0, 50));
        c.due("by the CODE of 1", 0, x.quarters(0, 10, 0, 1, 50));
        c.due("by the CODE of 7", 0, x.quarters(0, 10, 0, 7, 50));
        c.due("child 1", -1, x.quarters(1, 10, 0, 0, 50));
        c.due("child -1", -1, x.quarters(-1, 10, 0, 0, 50));
        c.due("day 800", -1, x.quarters(0, 800, 0, 0, 50));
        c.due("half 2", -1, x.quarters(0, 10, 2, 0, 50));
        c.due("code 8", -1, x.quarters(0, 10, 0, 8, 50));
        c.due("code -1", -1, x.quarters(0, 10, 0, -1, 50));
        c.due("known 800", -1, x.quarters(0, 10, 0, 0, 800));
        c.due("known -1", -1, x.quarters(0, 10, 0, 0, -1));
    }

    /** QUARTERS on DAY 110 of a CHILD of age 8, STANDARD 2, with one IF. */
    private static int asked(String condition) {
        SchoolBoard x = board(1, 1, "clause 1: half; clause 2: count present as 1 if " + condition + ";");
        x.day(120);
        x.enter(0, 0, 0);
        x.mark(0, 100, 0, 120, 1, 1);
        x.grantSpan(0, 0, 3, 110, 110);
        x.grantSpan(0, 1, 0, 110, 110);
        x.grantSpan(0, 2, 0, 110, 110);
        return 10 * x.quarters(0, 110, 1, 3, 120) + x.quarters(0, 111, 0, 3, 120);
    }

    private static void quartersAsk() {
        c.of("16 quarters, what an IF asks");
        c.due("age=8", 11, asked("age=8"));
        c.due("age>8", 0, asked("age>8"));
        c.due("age<8", 0, asked("age<8"));
        c.due("standard=2", 11, asked("standard=2"));
        c.due("day=10", 10, asked("day=10"));
        c.due("day>10", 1, asked("day>10"));
        c.due("year=1, not the CODE's", 11, asked("year=1"));
        c.due("half=1", 10, asked("half=1"));
        c.due("excused=1", 10, asked("excused=1"));
        c.due("timer=1", 10, asked("timer=1"));
        c.due("poor=1", 10, asked("poor=1"));
        c.due("passes=0", 11, asked("passes=0"));
        c.due("quarters=0", 11, asked("quarters=0"));
        c.due("subject=0 and mark=0", 11, asked("subject=0 and mark=0"));
        c.due("not", 1, asked("not poor=1"));
        c.due("or binds less than and", 11, asked("age=8 or age=1 and age=2"));
        c.due("brackets", 0, asked("(age=8 or age=1) and age=2"));
        c.due("not binds most", 11, asked("not age=1 and age=8"));
        c.due("not over brackets", 0, asked("not (age=1 or age=8)"));
        c.due("not not", 11, asked("not not age=8"));
        SchoolBoard x = board(1, 1, "clause 1: count present as 1 if age=0;");
        x.day(30);
        x.child(20, 0, 0);
        x.enter(1, 0, 0);
        x.mark(1, 0, 0, 30, 1, 1);
        c.due("AGE is 0 at least", 1, x.quarters(1, 0, 0, 0, 30));
    }

    private static void quartersExcused() {
        c.of("16 quarters, excuses");
        SchoolBoard x = board(1, 1, "clause 9: excuse 1 as 2; clause 5: excuse 4 as 1; clause 6: excuse 2 as 2 if age>50;"
                + "clause 7: count present as 0;");
        x.day(50);
        x.enter(0, 0, 0);
        x.grantSpan(0, 0, 1, 10, 30);
        x.grantSpan(0, 0, 4, 20, 40);
        x.grantSpan(0, 0, 2, 5, 60);
        c.due("a kind whose IF doesn't hold", 0, x.quarters(0, 5, 0, 0, 50));
        c.due("kind 1", 2, x.quarters(0, 10, 0, 0, 50));
        c.due("both: the first by NUMBERS", 1, x.quarters(0, 20, 0, 0, 50));
        c.due("kind 4", 1, x.quarters(0, 40, 1, 0, 50));
        c.due("a later DAY", 0, x.quarters(0, 55, 1, 0, 50));
        x.mark(0, 20, 0, 20, 1, 1);
        c.due("present isn't excused", 0, x.quarters(0, 20, 0, 0, 50));
        x.undo(2);
        c.due("without kind 4", 2, x.quarters(0, 21, 0, 0, 50));
    }

    private static void yearly() {
        c.of("17 yearly");
        SchoolBoard x = board(1, 2, "clause 1: count present as 2; clause 2: excuse 0 as 1;");
        x.day(150);
        x.enter(0, 0, 0);
        x.enter(0, 1, 50);
        x.mark(0, 0, 0, 120, 0, 1);
        c.due("all of YEAR 0, at both SCHOOLS", 400, x.yearly(0, 0, 0, 150));
        c.due("YEAR 1", 82, x.yearly(0, 1, 1, 150));
        x.shut(1, 90, 101);
        c.due("less ten DAYS", 360, x.yearly(0, 0, 0, 150));
        x.grantSpan(0, 0, 0, 200, 249);
        c.due("DAYS to come", 100, x.yearly(0, 2, 2, 150));
        c.due("as KNOWN on 149", 0, x.yearly(0, 0, 0, 149));
        Checks.act(x, 2, "clause 1: count present as 1;");
        c.due("by the CODE of 2", 180, x.yearly(0, 0, 2, 150));
        c.due("child 1", -1, x.yearly(1, 0, 0, 0));
        c.due("year 8", -1, x.yearly(0, 8, 0, 0));
        c.due("year -1", -1, x.yearly(0, -1, 0, 0));
        c.due("code 8", -1, x.yearly(0, 0, 8, 0));
        c.due("known 800", -1, x.yearly(0, 0, 0, 800));
    }

    private static void standard() {
        c.of("18 standard");
        SchoolBoard x = board(1, 1, "clause 1: pass 0 needs 40; clause 2: pass 1 needs 40; clause 3: rise 2;");
        x.day(350);
        x.child(0, 0, 5);
        for (int year = 0; year < 4; year++) {
            x.result(1, year, 0, 90);
            x.result(1, year, 1, 90);
        }
        c.due("as it came in its YEAR", 5, x.standard(1, 3, 350));
        c.due("and in those ahead", 5, x.standard(1, 0, 350));
        c.due("and no rise in those", 5, x.standard(1, 2, 350));
        c.due("one more", 6, x.standard(1, 4, 350));
        c.due("six at most", 6, x.standard(1, 7, 350));
        x.result(0, 0, 0, 40);
        x.result(0, 0, 1, 39);
        c.due("one PASS is too few", 2, x.standard(0, 1, 350));
        x.day(360);
        int number = x.result(0, 0, 1, 40);
        c.due("put right", 3, x.standard(0, 1, 360));
        c.due("as KNOWN before", 2, x.standard(0, 1, 359));
        c.due("and later ones", 3, x.standard(0, 7, 360));
        x.day(370);
        x.undo(number);
        c.due("UNDONE: the one before holds", 2, x.standard(0, 1, 370));
        c.due("child 2", -1, x.standard(2, 0, 0));
        c.due("year 8", -1, x.standard(0, 8, 0));
        c.due("year -1", -1, x.standard(0, -1, 0));
        c.due("known 800", -1, x.standard(0, 0, 800));
        c.due("known -1", -1, x.standard(0, 0, -1));
    }

    /** STANDARD in YEAR 1 of a CHILD of age 7 on DAY 99 with 2 PASSES in YEAR 0. */
    private static int risen(String condition) {
        SchoolBoard x = board(1, 1, "clause 1: pass 0 needs 0; clause 2: pass 5 needs 0; clause 3: half;"
                + "clause 4: rise 1 if " + condition + ";");
        x.result(0, 0, 0, 10);
        x.result(0, 0, 5, 20);
        x.grantSpan(0, 1, 0, 99, 99);
        x.grantSpan(0, 2, 0, 99, 120);
        return x.standard(0, 1, 0);
    }

    private static void standardRises() {
        c.of("18 standard, what an IF asks");
        c.due("passes=2", 3, risen("passes=2"));
        c.due("age=7", 3, risen("age=7"));
        c.due("standard=2", 3, risen("standard=2"));
        c.due("year=0", 3, risen("year=0"));
        c.due("timer=1", 3, risen("timer=1"));
        c.due("poor=1", 3, risen("poor=1"));
        c.due("mark=0 and subject=0 and quarters=0 and day=0", 3, risen("mark=0 and subject=0 and quarters=0 and day=0"));
        c.due("passes=1", 2, risen("passes=1"));
        SchoolBoard x = board(1, 1, "clause 1: pass 0 needs 0; clause 2: rise 2 if year=0; clause 3: rise 1;");
        x.day(200);
        x.result(0, 0, 0, 10);
        x.result(0, 1, 0, 10);
        c.due("the first rise holds, not a later one", 2, x.standard(0, 1, 200));
        c.due("none without a rise of that IF", 3, x.standard(0, 2, 200));
        Checks.act(x, 3, "omit 2; omit 3;");
        x.day(400);
        x.result(0, 3, 0, 10);
        c.due("no rise by the CODE of 3", 3, x.standard(0, 4, 400));
        SchoolBoard y = board(1, 1, "clause 1: rise 0;");
        c.due("rise 0 needs no PASS", 5, y.standard(0, 3, 0));
    }

    private static void passes() {
        c.of("19 passes");
        SchoolBoard x = board(1, 1, "clause 8: pass 0 needs 40; clause 3: pass 0 needs 60 if mark<50;"
                + "clause 4: pass 2 needs 10 if subject=2 and age=8 and standard=2 and year=1 and timer=0 and poor=1;"
                + "clause 5: pass 3 needs 0 if passes>0 or quarters>0; clause 6: pass 4 needs 0;");
        x.day(199);
        x.result(0, 1, 0, 45);
        c.due("the first pass whose IF holds", 0, x.passes(0, 1, 0, 199));
        x.result(0, 1, 0, 50);
        c.due("the RESULT told last", 1, x.passes(0, 1, 0, 199));
        x.result(0, 1, 2, 10);
        c.due("not poor", 1, x.passes(0, 1, 0, 199));
        x.grantSpan(0, 2, 0, 199, 199);
        c.due("poor on the last DAY", 5, x.passes(0, 1, 0, 199));
        x.result(0, 1, 3, 100);
        c.due("passes and quarters aren't there", 5, x.passes(0, 1, 0, 199));
        x.result(0, 1, 5, 100);
        c.due("no pass clause, no PASS", 5, x.passes(0, 1, 0, 199));
        x.result(0, 1, 4, 0);
        c.due("as many as it needs", 21, x.passes(0, 1, 0, 199));
        c.due("YEAR 0 has none", 0, x.passes(0, 0, 0, 199));
        c.due("as KNOWN on 198", 0, x.passes(0, 1, 0, 198));
        Checks.act(x, 2, "omit 6; clause 8: pass 0 needs 51; omit 4;");
        c.due("by the CODE of 2", 0, x.passes(0, 1, 2, 199));
        c.due("child 1", -1, x.passes(1, 0, 0, 0));
        c.due("year 8", -1, x.passes(0, 8, 0, 0));
        c.due("code 8", -1, x.passes(0, 0, 8, 0));
        c.due("code -1", -1, x.passes(0, 0, -1, 0));
        c.due("known 800", -1, x.passes(0, 0, 0, 800));
    }

    private static void grant() {
        c.of("20 grant");
        SchoolBoard x = board(4, 2, "clause 1: count present as 2; clause 2: grant 10 per head; clause 3: attend 200;"
                + "clause 4: grant 7 per child; clause 5: grant 3 per pass 1; clause 6: pass 1 needs 50;");
        x.day(99);
        x.enter(0, 0, 0);
        x.enter(1, 0, 0);
        x.enter(2, 0, 0);
        x.enter(3, 0, 0);
        x.enter(3, 1, 50);
        x.mark(0, 0, 0, 99, 1, 1);
        x.mark(1, 0, 0, 49, 1, 1);
        x.mark(2, 0, 0, 49, 0, 1);
        x.mark(3, 0, 0, 99, 1, 1);
        x.result(0, 0, 1, 50);
        x.result(1, 0, 1, 49);
        x.result(3, 0, 1, 99);
        // 400 + 200 + 198 + 200 QUARTERS of SCHOOL 0.
        c.due("AVERAGE", 998 / 400, x.grant(0, 0, 0, 99, 0));
        c.due("open DAYS", 100, x.grant(0, 0, 0, 99, 1));
        c.due("CHILDREN on the last DAY", 3, x.grant(0, 0, 0, 99, 2));
        c.due("STAFF covers all", -1, x.grant(0, 0, 0, 99, 3));
        c.due("20, 7 and 3, 7, nothing", 37, x.grant(0, 0, 0, 99, 4));
        c.due("LINES", 4, x.grant(0, 0, 0, 99, 5));
        c.due("the other SCHOOL: 0, 7 and 3", 10, x.grant(1, 0, 0, 99, 4));
        c.due("a head LINE of 0 is one too", 3, x.grant(1, 0, 0, 99, 5));
        c.due("QUARTERS of the YEAR count at all SCHOOLS", 3, x.line(1, 0, 0, 99, 1, 0));
        c.due("as KNOWN on 98", 0, x.grant(0, 0, 0, 98, 4));
        c.due("CHILDREN as KNOWN on 98", 0, x.grant(0, 0, 0, 98, 2));
        x.shut(0, 0, 98);
        c.due("AVERAGE of one DAY", 1, x.grant(0, 0, 0, 99, 0));
        x.shut(0, 99, 99);
        c.due("AVERAGE without DAYS", 0, x.grant(0, 0, 0, 99, 0));
        c.due("CHILDREN all the same", 3, x.grant(0, 0, 0, 99, 2));
        c.due("what 6", -1, x.grant(0, 0, 0, 99, 6));
        c.due("what -1", -1, x.grant(0, 0, 0, 99, -1));
        c.due("school 2", -1, x.grant(2, 0, 0, 99, 4));
        c.due("school -1", -1, x.grant(-1, 0, 0, 99, 4));
        c.due("year 8", -1, x.grant(0, 8, 0, 99, 4));
        c.due("code 8", -1, x.grant(0, 0, 8, 99, 4));
        c.due("known 800", -1, x.grant(0, 0, 0, 800, 4));
    }

    private static SchoolBoard fullYear(int children, String act) {
        SchoolBoard x = board(children, 1, "clause 1: count present as 2; clause 2: half;" + act);
        x.day(99);
        for (int i = 0; i < children; i++) {
            x.enter(i, 0, 0);
            x.mark(i, 0, 0, 99, 1, 1);
        }
        return x;
    }

    private static void grantHeads() {
        c.of("20 grant, heads, staff and cap");
        SchoolBoard x = fullYear(5, "clause 9: staff 1; clause 4: staff 2; clause 5: grant 10 per head if year=0;"
                + "clause 6: grant 1 per head if age=0 and standard=0 and passes=0; clause 7: grant 99 per head if year=1;");
        c.due("the least staff clause", 2, x.grant(0, 0, 0, 99, 3));
        c.due("2 of 5 heads", 22, x.grant(0, 0, 0, 99, 4));
        x.teacher(0);
        c.due("and a PUPIL TEACHER", 4, x.grant(0, 0, 0, 99, 3));
        c.due("4 of 5 heads", 44, x.grant(0, 0, 0, 99, 4));
        x.teacher(0);
        c.due("6 cover 5", 55, x.grant(0, 0, 0, 99, 4));
        x.day(100);
        x.teacher(0);
        c.due("one from YEAR 1 on", 6, x.grant(0, 0, 0, 100, 3));
        c.due("is there in YEAR 1", 8, x.grant(0, 1, 0, 100, 3));
        SchoolBoard y = fullYear(2, "clause 30: cap 1; clause 20: cap 15; clause 5: grant 10 per head; clause 6: grant 5 per child;");
        c.due("30 isn't above 30", 30, y.grant(0, 0, 0, 99, 4));
        c.due("no LINE of the cap", 3, y.grant(0, 0, 0, 99, 5));
        Checks.act(y, 1, "clause 20: cap 14;");
        c.due("28 at most", 28, y.grant(0, 0, 1, 99, 4));
        c.due("a LINE of the cap", 4, y.grant(0, 0, 1, 99, 5));
        SchoolBoard z = fullYear(3, "clause 4: staff 1; clause 5: grant 10 per head; clause 6: cap 9;");
        c.due("the cap goes by AVERAGE, not by STAFF", 10, z.grant(0, 0, 0, 99, 4));
    }

    /** The GRANT of a CHILD of age 7 with one PASS (mark 60 in SUBJECT 3) by one clause. */
    private static int granted(String clauses) {
        SchoolBoard x = fullYear(1, "clause 3: pass 3 needs 60; clause 4: pass 2 needs 99;" + clauses);
        x.result(0, 0, 3, 60);
        x.result(0, 0, 2, 98);
        x.grantSpan(0, 1, 0, 99, 100);
        x.grantSpan(0, 2, 0, 0, 99);
        return x.grant(0, 0, 0, 99, 4);
    }

    private static void grantAsks() {
        c.of("20 grant, what an IF asks");
        c.due("age=7", 5, granted("clause 9: grant 5 per child if age=7;"));
        c.due("standard=2", 5, granted("clause 9: grant 5 per child if standard=2;"));
        c.due("year=0", 5, granted("clause 9: grant 5 per child if year=0;"));
        c.due("passes=1", 5, granted("clause 9: grant 5 per child if passes=1;"));
        c.due("quarters=400", 5, granted("clause 9: grant 5 per child if quarters=400;"));
        c.due("timer=1", 5, granted("clause 9: grant 5 per child if timer=1;"));
        c.due("poor=1", 5, granted("clause 9: grant 5 per child if poor=1;"));
        c.due("no subject, no mark", 5, granted("clause 9: grant 5 per child if subject=0 and mark=0 and excused=0;"));
        c.due("subject=3 and mark=60", 5, granted("clause 9: grant 5 per pass 3 if subject=3 and mark=60;"));
        c.due("a child's clause behind a pass's", 9,
                granted("clause 9: grant 5 per pass 3; clause 10: grant 4 per child if mark=0 and subject=0;"));
        c.due("no PASS", 0, granted("clause 9: grant 5 per pass 2;"));
        c.due("attend 400", 5, granted("clause 8: attend 400; clause 9: grant 5 per child;"));
        c.due("attend 401", 0, granted("clause 8: attend 401; clause 9: grant 5 per child;"));
        c.due("the first attend whose IF holds", 5,
                granted("clause 7: attend 401 if age>7; clause 8: attend 399 if quarters=400 and passes=1;"
                        + "clause 9: grant 5 per child; clause 10: attend 999;"));
    }

    private static void line() {
        c.of("21 line");
        SchoolBoard x = fullYear(2, "clause 20: grant 3 per head; clause 3: grant 4 per child; clause 9: grant 2 per pass 0;"
                + "clause 10: pass 0 needs 1; clause 15: cap 5; clause 8: grant 1 per head;");
        x.result(1, 0, 0, 5);
        int[][] due = {{-1, 8, 2}, {-1, 20, 6}, {0, 3, 4}, {1, 3, 4}, {1, 9, 2}, {-1, 15, -8}};
        c.due("LINES", due.length, x.grant(0, 0, 0, 99, 5));
        for (int k = 0; k < due.length; k++) {
            for (int what = 0; what < 3; what++) {
                c.due("line " + k + ", " + what, due[k][what], x.line(0, 0, 0, 99, k, what));
            }
        }
        c.due("line 6", -1000000, x.line(0, 0, 0, 99, 6, 0));
        c.due("line -1", -1000000, x.line(0, 0, 0, 99, -1, 0));
        c.due("what 3", -1000000, x.line(0, 0, 0, 99, 0, 3));
        c.due("what -1", -1000000, x.line(0, 0, 0, 99, 0, -1));
        c.due("school 1", -1000000, x.line(1, 0, 0, 99, 0, 0));
        c.due("year 8", -1000000, x.line(0, 8, 0, 99, 0, 0));
        c.due("code 8", -1000000, x.line(0, 0, 8, 99, 0, 0));
        c.due("known 800", -1000000, x.line(0, 0, 0, 800, 0, 0));
        c.due("GRANT is what they add up to", 10, x.grant(0, 0, 0, 99, 4));
        x.undo(1);
        c.due("told since: AVERAGE is 1, LINES are 1, 3, 4, 4, 2", -9, x.line(0, 0, 0, 99, 5, 2));
    }

    private static void fees() {
        c.of("22 fees");
        SchoolBoard x = board(2, 2, "clause 5: fee 3;");
        x.day(3);
        x.enter(0, 0, 1);
        c.due("not ON on the WEEK's first DAY", 0, x.fees(0, 3, 0));
        c.due("up to 4", 0, x.fees(0, 4, 0));
        c.due("up to 5, a DAY to come", 3, x.fees(0, 5, 0));
        c.due("up to 9", 3, x.fees(0, 9, 0));
        c.due("up to 10", 6, x.fees(0, 10, 0));
        x.shut(0, 10, 10);
        c.due("shut on the first DAY", 3, x.fees(0, 14, 0));
        x.shut(0, 16, 19);
        c.due("shut on others", 6, x.fees(0, 19, 0));
        x.grantSpan(0, 2, 0, 20, 20);
        c.due("LET OFF", 6, x.fees(0, 24, 0));
        c.due("and then again", 9, x.fees(0, 25, 0));
        x.pay(0, 20);
        c.due("PAID", 20, x.fees(0, 0, 1));
        c.due("OWED below 0", -20, x.fees(0, 0, 2));
        c.due("OWED", -11, x.fees(0, 25, 2));
        c.due("the other one", 0, x.fees(1, 799, 0));
        Checks.act(x, 1, "clause 5: fee 7;");
        c.due("by the CODE of each DAY's YEAR", x.fees(0, 99, 0) + 7, x.fees(0, 100, 0));
        c.due("of all DAYS", 3 * 17 + 7 * 140, x.fees(0, 799, 0));
        x.day(4);
        x.undo(0);
        c.due("as KNOWN TODAY", 0, x.fees(0, 799, 0));
        c.due("child 2", -1000000, x.fees(2, 0, 0));
        c.due("day 800", -1000000, x.fees(0, 800, 0));
        c.due("day -1", -1000000, x.fees(0, -1, 0));
        c.due("what 3", -1000000, x.fees(0, 0, 3));
        c.due("what -1", -1000000, x.fees(0, 0, -1));
    }

    /** The FEE of DAY 105 alone, by one IF. */
    private static int fee(String condition) {
        SchoolBoard x = board(1, 1, "clause 1: half; clause 2: fee 6 if " + condition + ";");
        x.day(110);
        x.enter(0, 0, 105);
        x.grantSpan(0, 1, 0, 105, 105);
        x.grantSpan(0, 0, 1, 105, 105);
        return x.fees(0, 109, 0);
    }

    private static void feesAsk() {
        c.of("22 fees, what an IF asks");
        c.due("age=8", 6, fee("age=8"));
        c.due("standard=2", 6, fee("standard=2"));
        c.due("year=1", 6, fee("year=1"));
        c.due("timer=1", 6, fee("timer=1"));
        c.due("day=5", 6, fee("day=5"));
        c.due("others aren't there", 6, fee("half=0 and excused=0 and passes=0 and quarters=0 and poor=0"));
        c.due("age>8", 0, fee("age>8"));
    }

    private static void pay() {
        c.of("23 pay");
        SchoolBoard x = board(2, 0, "");
        c.due("child 2", -1, x.pay(2, 1));
        c.due("child -1", -1, x.pay(-1, 1));
        c.due("0 pence", -1, x.pay(0, 0));
        c.due("10000 pence", -1, x.pay(0, 10000));
        c.due("below 0", -1, x.pay(0, -1));
        c.due("1 penny", 1, x.pay(0, 1));
        c.due("another one", 2, x.pay(0, 1));
        c.due("of another one", 9999, x.pay(1, 9999));
        for (int i = 2; i <= 100; i++) {
            c.due("all so far", 9999 * i, x.pay(1, 9999));
        }
        c.due("9999 more", -1, x.pay(1, 9999));
        c.due("100 more is above", -1, x.pay(1, 100));
        c.due("99 more", 999999, x.pay(1, 99));
        c.due("1 more", -1, x.pay(1, 1));
        c.due("PAID", 999999, x.fees(1, 0, 1));
    }

    private static void holds() {
        c.of("24 holds");
        SchoolBoard x = board(0, 1, "");
        x.school(0, 0, 199);
        c.due("no room clause", -1, x.holds(0, 0));
        Checks.act(x, 1, "clause 7: room 50;");
        Checks.act(x, 2, "clause 3: room 0;");
        c.due("in YEAR 0", -1, x.holds(1, 0));
        c.due("199 by 50", 3, x.holds(1, 1));
        c.due("1000 by 50", 20, x.holds(0, 1));
        c.due("by 0: any", -1, x.holds(0, 2));
        c.due("and later", -1, x.holds(0, 7));
        c.due("school 2", -2, x.holds(2, 0));
        c.due("school -1", -2, x.holds(-1, 0));
        c.due("year 8", -2, x.holds(0, 8));
        c.due("year -1", -2, x.holds(0, -1));
    }

    private static void teacher() {
        c.of("25 teacher");
        SchoolBoard x = board(0, 1, "");
        c.due("school 1", -1, x.teacher(1));
        c.due("school -1", -1, x.teacher(-1));
        x.day(250);
        for (int i = 0; i < 20; i++) {
            c.due("teacher " + i, i, x.teacher(0));
        }
        c.due("the 21st", -1, x.teacher(0));
        c.due("count(6)", 20, x.count(6));
        c.due("from TODAY's YEAR on", 1, x.teacherOf(19, 2, 0));
        c.due("not ahead of it", -1, x.teacherOf(19, 1, 0));
    }

    private static void proof() {
        c.of("26 proof");
        SchoolBoard x = board(0, 1, "clause 1: step 50;");
        x.day(100);
        x.teacher(0);
        x.day(250);
        c.no("teacher 1", x.proof(1, 1, 50));
        c.no("teacher -1", x.proof(-1, 1, 50));
        c.no("ahead of the first YEAR", x.proof(0, 0, 50));
        c.no("a YEAR to come", x.proof(0, 3, 50));
        c.no("mark 101", x.proof(0, 1, 101));
        c.no("mark -1", x.proof(0, 1, -1));
        c.yes("mark 60", x.proof(0, 1, 60));
        c.yes("mark 20", x.proof(0, 1, 20));
        c.due("the greatest holds", 2, x.teacherOf(0, 2, 0));
        c.yes("mark 49", x.proof(0, 2, 49));
        c.due("too little", 2, x.teacherOf(0, 3, 0));
        c.yes("mark 50", x.proof(0, 2, 50));
        c.due("enough", 3, x.teacherOf(0, 3, 0));
    }

    private static void teacherOf() {
        c.of("27 teacherOf");
        SchoolBoard x = board(0, 1, "clause 1: pay 1 is 100; clause 9: pay 2 is 150; clause 4: pay 2 is 140;"
                + "clause 5: pay 5 is 500; clause 20: step 30; clause 21: step 0;");
        x.teacher(0);
        c.due("STEP 1", 1, x.teacherOf(0, 0, 0));
        c.due("PAY 1", 100, x.teacherOf(0, 0, 1));
        c.due("without a PROOF", 1, x.teacherOf(0, 7, 0));
        x.day(799);
        for (int year = 0; year < 8; year++) {
            x.proof(0, year, 30);
        }
        c.due("STEP 2", 2, x.teacherOf(0, 1, 0));
        c.due("the first pay of it", 140, x.teacherOf(0, 1, 1));
        c.due("no pay of STEP 3", 0, x.teacherOf(0, 2, 1));
        c.due("STEP 5", 5, x.teacherOf(0, 4, 0));
        c.due("5 at most", 5, x.teacherOf(0, 7, 0));
        c.due("PAY of it", 500, x.teacherOf(0, 7, 1));
        Checks.act(x, 7, "clause 5: pay 5 is 600; clause 20: step 31;");
        c.due("by the YEAR's CODE", 600, x.teacherOf(0, 7, 1));
        c.due("teacher 1", -1, x.teacherOf(1, 0, 0));
        c.due("teacher -1", -1, x.teacherOf(-1, 0, 0));
        c.due("year 8", -1, x.teacherOf(0, 8, 0));
        c.due("year -1", -1, x.teacherOf(0, -1, 0));
        c.due("what 2", -1, x.teacherOf(0, 0, 2));
        c.due("what -1", -1, x.teacherOf(0, 0, -1));
        SchoolBoard y = board(0, 1, "");
        y.teacher(0);
        y.proof(0, 0, 0);
        c.due("without a step clause any PROOF does", 2, y.teacherOf(0, 1, 0));
        SchoolBoard z = board(0, 1, "");
        for (int i = 0; i < 20; i++) {
            z.teacher(0);
        }
        z.proof(1, 0, 0);
        z.proof(19, 0, 0);
        for (int i = 0; i < 20; i++) {
            c.due("each its own PROOFS, " + i, i == 1 || i == 19 ? 2 : 1, z.teacherOf(i, 1, 0));
        }
    }
}
