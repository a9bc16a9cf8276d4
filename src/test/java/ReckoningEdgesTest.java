/** Promises 16 to 27, sentence by sentence: the value at each edge, the one just inside it, the one just outside it. */
public final class ReckoningEdgesTest {
    private static final Checks c = new Checks();
    private static final int NO_SUCH = -1000000;

    public static void main(String[] args) {
        quartersAsked();
        quartersWhere();
        quartersOfEachSchool();
        quartersOfMarks();
        quartersOfExcuses();
        quartersIf();
        quartersIfSpans();
        signs();
        manySigns();
        yearly();
        standardAsked();
        standardRises();
        standardIf();
        passesAsked();
        passesNeeded();
        passesIf();
        grantAsked();
        average();
        grantChildren();
        staff();
        qualifies();
        grantIf();
        cap();
        line();
        feesAsked();
        feesByWeeks();
        feesIf();
        paidAndOwed();
        pay();
        holds();
        teacher();
        proof();
        step();
        payOfStep();
        c.end();
    }

    /** CHILDREN (born on -700, of STANDARD 2) and SCHOOLS as told, on a DAY, by an ACT from YEAR 0 on. */
    private static SchoolBoard board(int children, int schools, int day, String act) {
        SchoolBoard x = Checks.board(children, schools);
        if (Checks.act(x, 0, act) != 0) {
            c.due("a test's own act, its fault " + x.fault(), 0, -1);
        }
        x.day(day);
        return x;
    }

    /** One CHILD on SCHOOL 0 from 0 on, present on all DAYS up to TODAY. */
    private static SchoolBoard present(int day, String act) {
        SchoolBoard x = board(1, 1, day, act);
        x.enter(0, 0, 0);
        x.mark(0, 0, 0, day, 1, 1);
        return x;
    }

    private static void quartersAsked() {
        c.of("16 quarters: DAYS 0 to 799, HALVES 0 and 1, the CODE of a YEAR (0 to 7)");
        SchoolBoard x = present(799, "clause 1:count present as 2;");
        c.due("the first half", 2, x.quarters(0, 0, 0, 0, 799));
        c.due("the last half", 2, x.quarters(0, 799, 1, 7, 799));
        c.due("code 7", 2, x.quarters(0, 0, 0, 7, 799));
        c.due("child -1", -1, x.quarters(-1, 0, 0, 0, 799));
        c.due("the CHILD behind the last", -1, x.quarters(1, 0, 0, 0, 799));
        c.due("day -1", -1, x.quarters(0, -1, 0, 0, 799));
        c.due("day 800", -1, x.quarters(0, 800, 0, 0, 799));
        c.due("half -1", -1, x.quarters(0, 0, -1, 0, 799));
        c.due("half 2", -1, x.quarters(0, 0, 2, 0, 799));
        c.due("code -1", -1, x.quarters(0, 0, 0, -1, 799));
        c.due("code 8", -1, x.quarters(0, 0, 0, 8, 799));
        c.due("known 798", 0, x.quarters(0, 0, 0, 0, 798));
        c.due("known -1", -1, x.quarters(0, 0, 0, 0, -1));
        c.due("known 800", -1, x.quarters(0, 0, 0, 0, 800));
        c.of("16 quarters: another CODE, where it's told");
        SchoolBoard y = present(0, "clause 1:count present as 1;");
        Checks.act(y, 3, "clause 1:count present as 2;");
        c.due("by that of 2", 1, y.quarters(0, 0, 0, 2, 0));
        c.due("by that of 3", 2, y.quarters(0, 0, 0, 3, 0));
        c.due("by that of 7", 2, y.quarters(0, 0, 0, 7, 0));
    }

    private static void quartersWhere() {
        c.of("16 QUARTERS of a CHILD that is ON a SCHOOL");
        SchoolBoard x = board(1, 2, 60, "clause 1:count present as 2;");
        x.mark(0, 0, 0, 60, 1, 1);
        x.enter(0, 0, 10);
        x.enter(0, -1, 20);
        x.enter(0, 1, 30);
        int[] days = {9, 10, 19, 20, 29, 30, 60};
        int[] due = {0, 2, 2, 0, 0, 2, 2};
        for (int i = 0; i < days.length; i++) {
            c.due("on " + days[i], due[i], x.quarters(0, days[i], 0, 0, 60));
        }
        c.of("16 QUARTERS on a SCHOOL that isn't shut on the DAY");
        x.shut(0, 25, 35);
        c.due("the other SCHOOL shut", 2, x.quarters(0, 30, 0, 0, 60));
        x.shut(1, 40, 42);
        int again = x.shut(1, 42, 43);
        due = new int[] {2, 0, 0, 0, 0, 2};
        for (int day = 39; day <= 44; day++) {
            c.due("on " + day, due[day - 39], x.quarters(0, day, 1, 0, 60));
        }
        x.undo(again);
        c.due("43 again", 2, x.quarters(0, 43, 1, 0, 60));
        c.due("42 still shut", 0, x.quarters(0, 42, 1, 0, 60));
    }

    private static void quartersOfEachSchool() {
        c.of("16 QUARTERS: of six SCHOOLS each with its own HOLIDAYS");
        for (int shut = 0; shut < 6; shut++) {
            SchoolBoard x = board(6, 6, 30, "clause 1:count present as 2;");
            for (int child = 0; child < 6; child++) {
                x.enter(child, child, 0);
                x.mark(child, 0, 0, 30, 1, 1);
            }
            x.shut(shut, 10, 11);
            for (int child = 0; child < 6; child++) {
                boolean isShut = child == shut;
                c.due("SCHOOL " + child + " where " + shut + " is shut", isShut ? 0 : 2, x.quarters(child, 11, 1, 0, 30));
                c.due("QUARTERS of the YEAR", isShut ? 116 : 124, x.yearly(child, 0, 0, 30));
                c.due("DAYS that aren't shut", isShut ? 98 : 100, x.grant(child, 0, 0, 30, 1));
            }
        }
    }

    private static void quartersOfMarks() {
        c.of("16 QUARTERS of MARK 1, 2, 3: what the first \"count\" of it tells");
        SchoolBoard x = board(1, 1, 9, "clause 9:count present as 1;clause 8:count late as 2;clause 7:count work as 0;"
                + "clause 60:count present as 2;clause 1:count present as 0 if half=1;clause 2:count late as 1 if half>1;"
                + "clause 3:count work as 1 if half=0;");
        x.enter(0, 0, 0);
        x.mark(0, 1, 0, 1, 1, 1);
        x.mark(0, 2, 0, 2, 1, 2);
        x.mark(0, 3, 0, 3, 1, 3);
        int[][] due = {{0, 0}, {1, 0}, {2, 2}, {1, 0}};
        for (int day = 0; day < 4; day++) {
            c.due("MARK " + day, due[day][0], x.quarters(0, day, 0, 0, 9));
            c.due("MARK " + day + ", its second half", due[day][1], x.quarters(0, day, 1, 0, 9));
        }
        c.of("16 QUARTERS: none: 0");
        String[] words = {"", "present", "late", "work"};
        for (int mark = 1; mark <= 3; mark++) {
            SchoolBoard y = board(1, 1, 0, "clause 1:count " + words[mark] + " as 2;");
            y.enter(0, 0, 0);
            for (int told = 1; told <= 3; told++) {
                y.mark(0, 0, 0, 0, 0, told);
                c.due("count " + words[mark] + " alone, MARK " + told, told == mark ? 2 : 0, y.quarters(0, 0, 0, 0, 0));
            }
        }
    }

    private static void quartersOfExcuses() {
        c.of("16 QUARTERS when absent: the first \"excuse\" of a kind for which an EXCUSE has the DAY");
        for (int kind = 0; kind < 6; kind++) {
            SchoolBoard x = board(1, 1, 9, "clause 1:excuse " + kind + " as 2;");
            x.enter(0, 0, 0);
            for (int told = 0; told < 6; told++) {
                x.grantSpan(0, 0, told, told, told);
            }
            for (int day = 0; day < 7; day++) {
                c.due("excuse " + kind + ", EXCUSE of kind " + day, day == kind ? 2 : 0, x.quarters(0, day, 1, 0, 9));
            }
        }
        SchoolBoard x = board(1, 1, 9, "clause 5:excuse 3 as 1;clause 4:excuse 2 as 2;clause 3:excuse 3 as 0 if day=6;"
                + "clause 2:count present as 0;");
        x.enter(0, 0, 0);
        x.grantSpan(0, 0, 3, 2, 6);
        int both = x.grantSpan(0, 0, 2, 4, 5);
        int[] due = {0, 1, 1, 2, 2, 0, 0};
        for (int day = 1; day <= 7; day++) {
            c.due("EXCUSES from 2 to 6 and 4 to 5, on " + day, due[day - 1], x.quarters(0, day, 0, 0, 9));
        }
        x.undo(both);
        c.due("one UNDONE, on 4", 1, x.quarters(0, 4, 0, 0, 9));
        c.of("16 QUARTERS: excuses are for the absent");
        x.mark(0, 2, 0, 2, 0, 1);
        c.due("present", 0, x.quarters(0, 2, 0, 0, 9));
        c.due("its other half", 1, x.quarters(0, 2, 1, 0, 9));
        x.mark(0, 2, 0, 2, 0, 0);
        c.due("absent again", 1, x.quarters(0, 2, 0, 0, 9));
        c.of("16 QUARTERS when absent: none: 0");
        c.due("no EXCUSE", 0, x.quarters(0, 8, 0, 0, 9));
    }

    /** QUARTERS (0 or 1) on a DAY of a CHILD of AGE 7 + the YEAR, by one IF. */
    private static int met(int day, int half, String condition) {
        SchoolBoard x = present(day, "clause 1:count present as 1 if " + condition + ";");
        return x.quarters(0, day, half, 0, day);
    }

    private static void quartersIf() {
        c.of("16 QUARTERS' IF: age on the DAY");
        c.due("99", 1, met(99, 0, "age=7"));
        c.due("100", 1, met(100, 0, "age=8"));
        c.of("16 QUARTERS' IF: day is the DAY of the year");
        c.due("0", 1, met(0, 0, "day=0"));
        c.due("99", 1, met(99, 0, "day=99"));
        c.due("100", 1, met(100, 0, "day=0"));
        c.due("101", 1, met(101, 0, "day=1"));
        c.due("799", 1, met(799, 0, "day=99"));
        c.of("16 QUARTERS' IF: year is the DAY's, whatever CODE is told");
        c.due("99", 1, met(99, 0, "year=0"));
        c.due("100", 1, met(100, 0, "year=1"));
        c.due("799", 1, met(799, 0, "year=7"));
        SchoolBoard x = present(150, "clause 1:count present as 1 if year=1;");
        c.due("100 by the CODE of 5", 1, x.quarters(0, 100, 0, 5, 150));
        c.due("99 by the CODE of 1", 0, x.quarters(0, 99, 0, 1, 150));
        c.of("16 QUARTERS' IF: half");
        c.due("half 0", 1, met(5, 0, "half=0"));
        c.due("half 1", 1, met(5, 1, "half=1"));
        c.due("half 1, not 0", 0, met(5, 1, "half=0"));
        c.of("16 QUARTERS' IF: standard, of the DAY's YEAR");
        SchoolBoard y = present(150, "clause 1:count present as 1 if standard=3;clause 2:rise 0 if year=0;");
        c.due("99", 0, y.quarters(0, 99, 0, 0, 150));
        c.due("100", 1, y.quarters(0, 100, 0, 0, 150));
        SchoolBoard own = present(150, "clause 1:count present as 1 if standard=3;");
        Checks.act(own, 7, "clause 2:rise 0;");
        c.due("by each YEAR's own CODE, though 7's is told", 0, own.quarters(0, 100, 0, 7, 150));
        c.of("16 QUARTERS' IF: what isn't there is 0");
        c.due("passes", 1, met(5, 0, "passes=0"));
        c.due("quarters", 1, met(5, 0, "quarters=0"));
        c.due("subject", 1, met(5, 0, "subject=0"));
        c.due("mark", 1, met(5, 0, "mark=0"));
        SchoolBoard had = present(150, "clause 1:count present as 1 if passes=0 and quarters=0 and subject=0 and mark=0;"
                + "clause 2:pass 5 needs 0;clause 3:rise 1;clause 4:grant 1 per pass 5;");
        had.result(0, 0, 5, 60);
        had.result(0, 1, 5, 60);
        c.due("in the YEAR behind one with a PASS", 1, had.quarters(0, 120, 0, 1, 150));
        c.due("a YEAR of them", 102, had.yearly(0, 1, 1, 150));
        c.due("a GRANT for that PASS", 1, had.grant(0, 0, 0, 150, 4));
        c.due("behind the GRANT", 1, had.quarters(0, 120, 0, 1, 150));
        c.of("16 QUARTERS' IF: of the CHILD asked for, whoever was asked ahead of it");
        SchoolBoard two = board(1, 1, 9, "clause 1:count present as 1 if standard=2;clause 2:count present as 2 if standard=4;"
                + "clause 3:fee 5 if standard=4;clause 4:fee 6 if standard=2;");
        two.child(-700, 1, 4);
        for (int child = 0; child < 2; child++) {
            two.enter(child, 0, 0);
            two.mark(child, 0, 0, 4, 1, 1);
        }
        for (int turn = 0; turn < 2; turn++) {
            c.due("CHILD 0, a half", 1, two.quarters(0, 4, 0, 0, 9));
            c.due("CHILD 1, a half", 2, two.quarters(1, 4, 0, 0, 9));
            c.due("CHILD 0, a YEAR", 10, two.yearly(0, 0, 0, 9));
            c.due("CHILD 1, a YEAR", 20, two.yearly(1, 0, 0, 9));
            c.due("CHILD 0, FEES", 6, two.fees(0, 4, 0));
            c.due("CHILD 1, FEES", 5, two.fees(1, 4, 0));
            c.due("CHILD 0, WORTH", 30, two.officer(0, 10));
            c.due("CHILD 1, WORTH", 20, two.officer(0, 11));
        }
    }

    private static void quartersIfSpans() {
        c.of("16 QUARTERS' IF: excused, timer, poor: 1 if one has the DAY");
        String[] names = {"excused", "timer", "poor"};
        for (int what = 0; what < 3; what++) {
            SchoolBoard x = board(2, 1, 9, "clause 1:half;clause 2:count present as 1 if " + names[what] + "=1;"
                    + "clause 3:count present as 2 if " + names[what] + "=0;");
            x.enter(0, 0, 0);
            x.mark(0, 0, 0, 9, 1, 1);
            int first = x.grantSpan(0, what, 3, 4, 5);
            x.grantSpan(0, what, 2, 5, 6);
            x.grantSpan(1, what, 2, 0, 9);
            int[] due = {2, 1, 1, 1, 2};
            for (int day = 3; day <= 7; day++) {
                c.due(names[what] + " from 4 to 6, on " + day, due[day - 3], x.quarters(0, day, 0, 0, 9));
            }
            x.undo(first);
            c.due(names[what] + " UNDONE, on 4", 2, x.quarters(0, 4, 0, 0, 9));
            c.due(names[what] + " by another one, on 5", 1, x.quarters(0, 5, 0, 0, 9));
            c.due(names[what] + ", what another kind is", 2, x.quarters(0, 0, 0, 0, 9));
        }
        SchoolBoard x = board(1, 1, 9, "clause 1:excuse 1 as 2 if excused=1;clause 2:half;");
        x.enter(0, 0, 0);
        x.grantSpan(0, 0, 1, 4, 4);
        c.due("an excuse's own IF", 2, x.quarters(0, 4, 0, 0, 9));
    }

    private static void signs() {
        c.of("16 SIGN: < > =");
        int[] values = {0, 6, 7, 8, 9999};
        int[][] due = {{0, 1, 0}, {0, 1, 0}, {0, 0, 1}, {1, 0, 0}, {1, 0, 0}};
        for (int i = 0; i < values.length; i++) {
            c.due("7<" + values[i], due[i][0], met(0, 0, "age<" + values[i]));
            c.due("7>" + values[i], due[i][1], met(0, 0, "age>" + values[i]));
            c.due("7=" + values[i], due[i][2], met(0, 0, "age=" + values[i]));
        }
        c.of("16 ANY: ALL {\"or\" ALL}, ALL: ONE {\"and\" ONE}");
        String[] sides = {"age=1", "age=7"};
        for (int bits = 0; bits < 8; bits++) {
            String a = sides[bits & 1];
            String b = sides[bits >> 1 & 1];
            String d = sides[bits >> 2];
            boolean isA = (bits & 1) == 1;
            boolean isB = (bits & 2) == 2;
            boolean isD = (bits & 4) == 4;
            c.due(a + " or " + b + " and " + d, Checks.bit(isA || isB && isD), met(0, 0, a + " or " + b + " and " + d));
            c.due(a + " and " + b + " or " + d, Checks.bit(isA && isB || isD), met(0, 0, a + " and " + b + " or " + d));
            c.due("(" + a + " or " + b + ") and " + d, Checks.bit((isA || isB) && isD),
                    met(0, 0, "(" + a + " or " + b + ") and " + d));
            c.due("not " + a + " and " + b, Checks.bit(!isA && isB), met(0, 0, "not " + a + " and " + b));
            c.due("not(" + a + " and " + b + ") or " + d, Checks.bit(!(isA && isB) || isD),
                    met(0, 0, "not(" + a + " and " + b + ") or " + d));
            c.due("not not " + a + " and not " + b, Checks.bit(isA && !isB), met(0, 0, "not not " + a + " and not " + b));
            c.due("all three by or", Checks.bit(isA || isB || isD), met(0, 0, a + " or " + b + " or " + d));
            c.due("all three by and", Checks.bit(isA && isB && isD), met(0, 0, a + " and " + b + " and " + d));
        }
    }

    private static void manySigns() {
        c.of("16 ANY: as many in one IF as 800 bytes hold");
        c.due("the last of 80 by or", 1, met(0, 0, "age=1 or ".repeat(79) + "age=7"));
        c.due("none of 80 by or", 0, met(0, 0, "age=1 or ".repeat(79) + "age=8"));
        c.due("all of 70 by and", 1, met(0, 0, "age=7 and ".repeat(69) + "age=7"));
        c.due("all of 70 by and but the last", 0, met(0, 0, "age=7 and ".repeat(69) + "age=8"));
        c.of("16 ANY: ten open in one another");
        String deep = "(age=1 or age=7 and ".repeat(10) + "age=7" + ")".repeat(10);
        c.due("ten (, all hold", 1, met(0, 0, deep));
        c.due("ten (, the innermost doesn't", 0, met(0, 0, deep.replace("age=7)", "age=8)")));
        c.due("five not(", 0, met(0, 0, "not(age=1 or age=7 and ".repeat(5) + "age=7" + ")".repeat(5)));
        c.due("five not(, the innermost doesn't hold", 1, met(0, 0, "not(age=1 or age=7 and ".repeat(5) + "age=8" + ")".repeat(5)));
        c.due("ten not", 1, met(0, 0, "not ".repeat(10) + "age=7"));
        c.due("nine not", 0, met(0, 0, "not ".repeat(9) + "age=7"));
    }

    private static void yearly() {
        c.of("17 QUARTERS of a YEAR: of all HALVES of its DAYS");
        int[][] halves = {{99, 1, 0, 0}, {100, 0, 0, 1}, {100, 1, 0, 1}, {199, 0, 0, 1}, {199, 1, 0, 1}, {200, 0, 0, 0}};
        for (int[] half : halves) {
            SchoolBoard x = board(1, 1, 299, "clause 1:count present as 1;");
            x.enter(0, 0, 0);
            x.mark(0, half[0], half[1], half[0], half[1], 1);
            c.due("half " + half[1] + " of " + half[0] + " in YEAR 1", half[3], x.yearly(0, 1, 1, 299));
        }
        SchoolBoard all = present(799, "clause 1:count present as 2;");
        for (int year = 0; year < 8; year++) {
            c.due("400 at most, YEAR " + year, 400, all.yearly(0, year, year, 799));
        }
        c.of("17 yearly: YEARS and CODES 0 to 7, DAYS 0 to 799");
        c.due("year 0 by code 7", 400, all.yearly(0, 0, 7, 799));
        c.due("year 7 by code 0", 400, all.yearly(0, 7, 0, 799));
        c.due("child -1", -1, all.yearly(-1, 0, 0, 799));
        c.due("the CHILD behind the last", -1, all.yearly(1, 0, 0, 799));
        c.due("year -1", -1, all.yearly(0, -1, 0, 799));
        c.due("year 8", -1, all.yearly(0, 8, 0, 799));
        c.due("code -1", -1, all.yearly(0, 0, -1, 799));
        c.due("code 8", -1, all.yearly(0, 0, 8, 799));
        c.due("known 0", 0, all.yearly(0, 0, 0, 0));
        c.due("known -1", -1, all.yearly(0, 0, 0, -1));
        c.due("known 800", -1, all.yearly(0, 0, 0, 800));
        c.of("17 yearly: by the CODE told");
        Checks.act(all, 7, "clause 1:count present as 1;");
        c.due("by 6", 400, all.yearly(0, 7, 6, 799));
        c.due("by 7", 200, all.yearly(0, 6, 7, 799));
    }

    private static void standardAsked() {
        c.of("18 standard: YEARS 0 to 7, DAYS 0 to 799");
        SchoolBoard x = board(1, 1, 0, "clause 1:rise 0;");
        c.due("year 0", 2, x.standard(0, 0, 0));
        c.due("year 1", 3, x.standard(0, 1, 0));
        c.due("year 7", 6, x.standard(0, 7, 0));
        c.due("known 799", 3, x.standard(0, 1, 799));
        c.due("year -1", -1, x.standard(0, -1, 0));
        c.due("year 8", -1, x.standard(0, 8, 0));
        c.due("known -1", -1, x.standard(0, 0, -1));
        c.due("known 800", -1, x.standard(0, 0, 800));
        c.due("child -1", -1, x.standard(-1, 0, 0));
        c.due("the CHILD behind the last", -1, x.standard(1, 0, 0));
        c.of("18 STANDARD: as it came for the YEAR in which it came and those ahead");
        SchoolBoard y = board(0, 0, 299, "clause 1:rise 1;clause 2:pass 0 needs 0;");
        y.child(0, 0, 3);
        y.day(300);
        y.child(0, 0, 3);
        for (int child = 0; child < 2; child++) {
            for (int year = 0; year < 4; year++) {
                y.result(child, year, 0, 0);
            }
        }
        int[][] due = {{3, 3, 3, 4, 5, 5}, {3, 3, 3, 3, 4, 4}};
        for (int child = 0; child < 2; child++) {
            for (int year = 0; year < 6; year++) {
                c.due("came in YEAR " + (2 + child) + ", in YEAR " + year, due[child][year], y.standard(child, year, 300));
            }
        }
    }

    private static SchoolBoard passed(int standard, int passes, String act) {
        SchoolBoard x = new SchoolBoard();
        Checks.act(x, 0, act);
        x.child(-700, 0, standard);
        for (int subject = 0; subject < passes; subject++) {
            x.result(0, 0, subject, 50);
        }
        return x;
    }

    private static void standardRises() {
        String pass = "clause 10:pass 0 needs 50;clause 11:pass 1 needs 50;clause 12:pass 2 needs 50;clause 13:pass 3 needs 50;"
                + "clause 14:pass 4 needs 50;clause 15:pass 5 needs 50;";
        c.of("18 STANDARD: one more behind a YEAR in which PASSES are at least what the first \"rise\" tells");
        c.due("2 of 3", 2, passed(2, 2, pass + "clause 1:rise 3;").standard(0, 1, 0));
        c.due("3 of 3", 3, passed(2, 3, pass + "clause 1:rise 3;").standard(0, 1, 0));
        c.due("4 of 3", 3, passed(2, 4, pass + "clause 1:rise 3;").standard(0, 1, 0));
        c.due("6 of 6", 3, passed(2, 6, pass + "clause 1:rise 6;").standard(0, 1, 0));
        c.due("6 of 7", 2, passed(2, 6, pass + "clause 1:rise 7;").standard(0, 1, 0));
        c.due("0 of 0", 3, passed(2, 0, pass + "clause 1:rise 0;").standard(0, 1, 0));
        c.due("not in that YEAR", 2, passed(2, 6, pass + "clause 1:rise 1;").standard(0, 0, 0));
        c.due("once", 3, passed(2, 6, pass + "clause 1:rise 1;").standard(0, 7, 0));
        c.due("the first clause: 2 of 3", 2, passed(2, 2, pass + "clause 2:rise 1;clause 1:rise 3;").standard(0, 1, 0));
        c.due("the first whose IF holds", 3, passed(2, 2, pass + "clause 2:rise 1;clause 1:rise 3 if age>7;").standard(0, 1, 0));
        c.of("18 STANDARD: 6 at most");
        c.due("5", 6, passed(5, 0, "clause 1:rise 0;").standard(0, 1, 0));
        c.due("5, two YEARS", 6, passed(5, 0, "clause 1:rise 0;").standard(0, 2, 0));
        c.due("6", 6, passed(6, 0, "clause 1:rise 0;").standard(0, 1, 0));
        c.due("0 in YEAR 6", 6, passed(0, 0, "clause 1:rise 0;").standard(0, 6, 0));
        c.due("0 in YEAR 7", 6, passed(0, 0, "clause 1:rise 0;").standard(0, 7, 0));
        c.of("18 STANDARD: none: it doesn't rise");
        c.due("no clause", 2, passed(2, 6, pass).standard(0, 7, 0));
        c.due("none whose IF holds", 2, passed(2, 6, pass + "clause 1:rise 0 if poor=1;").standard(0, 7, 0));
        c.of("18 STANDARD: each YEAR by its own CODE");
        SchoolBoard x = passed(0, 0, "clause 1:rise 0;");
        Checks.act(x, 2, "omit 1;");
        Checks.act(x, 4, "clause 1:rise 0;");
        int[] due = {0, 1, 2, 2, 2, 3, 4, 5};
        for (int year = 0; year < 8; year++) {
            c.due("YEAR " + year, due[year], x.standard(0, year, 0));
        }
    }

    /** STANDARD in YEAR 1 of a CHILD (2 at first), by a rise's IF; spans of what have the DAYS told. */
    private static int risen(String condition, int born, int what, int from, int to) {
        SchoolBoard x = new SchoolBoard();
        Checks.act(x, 0, "clause 1:rise 0 if " + condition + ";clause 2:half;");
        x.child(born, 0, 2);
        x.grantSpan(0, what, 0, from, to);
        return x.standard(0, 1, 0);
    }

    private static void standardIf() {
        c.of("18 STANDARD's IF: as of the YEAR's last DAY");
        c.due("age 7 on 99", 3, risen("age=7", -700, 0, 0, 0));
        c.due("age 8 on 99", 3, risen("age=8", -701, 0, 0, 0));
        c.due("not as of 100", 2, risen("age=8", -700, 0, 0, 0));
        String[] names = {"", "timer", "poor"};
        for (int what = 1; what < 3; what++) {
            c.due(names[what] + " up to 98", 2, risen(names[what] + "=1", -700, what, 0, 98));
            c.due(names[what] + " up to 99", 3, risen(names[what] + "=1", -700, what, 0, 99));
            c.due(names[what] + " from 99 on", 3, risen(names[what] + "=1", -700, what, 99, 799));
            c.due(names[what] + " from 100 on", 2, risen(names[what] + "=1", -700, what, 100, 799));
        }
        c.due("timer without one", 3, risen("timer=0", -700, 2, 0, 799));
        c.due("poor without one", 3, risen("poor=0", -700, 1, 0, 799));
        c.due("an EXCUSE is neither", 3, risen("timer=0 and poor=0", -700, 0, 0, 799));
        c.due("standard, ahead of the rise", 3, risen("standard=2", -700, 0, 0, 0));
        c.due("year", 3, risen("year=0", -700, 0, 0, 0));
        c.of("18 STANDARD's IF: what isn't there is 0");
        c.due("day, half", 3, risen("day=0 and half=0", -700, 0, 0, 0));
        c.due("excused, though an EXCUSE has the DAY", 3, risen("excused=0", -700, 0, 99, 99));
        c.due("quarters, subject, mark", 3, risen("quarters=0 and subject=0 and mark=0", -700, 0, 0, 0));
        SchoolBoard x = passed(2, 3, "clause 1:pass 2 needs 50;clause 2:pass 0 needs 51;clause 3:rise 0 if passes=1;");
        c.due("passes: how many", 3, x.standard(0, 1, 0));
        c.due("and no more", 3, x.standard(0, 2, 0));
        SchoolBoard last = passed(2, 6, "clause 1:pass 5 needs 50;clause 3:rise 1 if subject=0 and mark=0;");
        c.due("subject and mark of no PASS, though SUBJECT 5 has one", 3, last.standard(0, 1, 0));
    }

    private static void passesAsked() {
        c.of("19 passes: YEARS and CODES 0 to 7, DAYS 0 to 799");
        SchoolBoard x = board(1, 1, 700, "clause 1:pass 3 needs 10;");
        x.result(0, 0, 3, 10);
        x.result(0, 7, 3, 10);
        c.due("year 0", 8, x.passes(0, 0, 0, 700));
        c.due("year 7", 8, x.passes(0, 7, 7, 700));
        c.due("year 6", 0, x.passes(0, 6, 6, 700));
        c.due("code 7", 8, x.passes(0, 0, 7, 700));
        c.due("known 799", 8, x.passes(0, 0, 0, 799));
        c.due("known 699", 0, x.passes(0, 0, 0, 699));
        c.due("child -1", -1, x.passes(-1, 0, 0, 700));
        c.due("the CHILD behind the last", -1, x.passes(1, 0, 0, 700));
        c.due("year -1", -1, x.passes(0, -1, 0, 700));
        c.due("year 8", -1, x.passes(0, 8, 0, 700));
        c.due("code -1", -1, x.passes(0, 0, -1, 700));
        c.due("code 8", -1, x.passes(0, 0, 8, 700));
        c.due("known -1", -1, x.passes(0, 0, 0, -1));
        c.due("known 800", -1, x.passes(0, 0, 0, 800));
    }

    private static void passesNeeded() {
        c.of("19 PASSES: at least as many marks as the first \"pass\" of it needs");
        int[][] edges = {{40, 39, 0}, {40, 40, 1}, {40, 41, 1}, {100, 99, 0}, {100, 100, 1}, {101, 100, 0}, {0, 0, 1},
            {9999, 100, 0}, {1, 0, 0}};
        for (int[] edge : edges) {
            SchoolBoard x = board(1, 1, 0, "clause 1:pass 0 needs " + edge[0] + ";");
            x.result(0, 0, 0, edge[1]);
            c.due(edge[1] + " of " + edge[0], edge[2], x.passes(0, 0, 0, 0));
        }
        for (int subject = 0; subject < 6; subject++) {
            SchoolBoard x = board(1, 1, 0, "clause 1:pass " + subject + " needs 40;");
            for (int told = 0; told < 6; told++) {
                x.result(0, 0, told, 90);
            }
            c.due("bits, SUBJECT " + subject + " (none: no PASS)", 1 << subject, x.passes(0, 0, 0, 0));
        }
        SchoolBoard first = board(1, 1, 0, "clause 3:pass 0 needs 10;clause 2:pass 0 needs 60;clause 1:pass 0 needs 90 if mark>70;");
        int[][] marks = {{9, 0}, {10, 0}, {59, 0}, {60, 1}, {70, 1}, {71, 0}, {89, 0}, {90, 1}};
        for (int[] mark : marks) {
            first.result(0, 0, 0, mark[0]);
            c.due("the first clause whose IF holds, mark " + mark[0], mark[1], first.passes(0, 0, 0, 0));
        }
        c.of("19 PASSES: in each SUBJECT with a RESULT in the YEAR");
        SchoolBoard none = board(1, 1, 150, "clause 1:pass 0 needs 0;clause 2:pass 1 needs 0;");
        int number = none.result(0, 1, 0, 0);
        c.due("with a RESULT of 0, without one", 1, none.passes(0, 1, 1, 150));
        c.due("in another YEAR", 0, none.passes(0, 0, 0, 150));
        none.undo(number);
        c.due("UNDONE", 0, none.passes(0, 1, 1, 150));
        c.of("19 PASSES: of a SUBJECT's RESULTS the one KNOWN that was told last holds");
        SchoolBoard again = board(1, 1, 10, "clause 1:pass 0 needs 50;");
        again.result(0, 0, 0, 50);
        again.day(20);
        int worse = again.result(0, 0, 0, 49);
        again.day(30);
        again.undo(worse);
        int[][] days = {{9, 0}, {10, 1}, {19, 1}, {20, 0}, {29, 0}, {30, 1}};
        for (int[] day : days) {
            c.due("50 from 10 on, 49 from 20 to 29, by " + day[0], day[1], again.passes(0, 0, 0, day[0]));
        }
        again.result(0, 0, 1, 0);
        c.due("another SUBJECT's told behind it", 1, again.passes(0, 0, 0, 30));
    }

    /** Whether a mark of 50 in SUBJECT 4 in YEAR 1 is a PASS by one IF. */
    private static int passedIf(String condition, int born, int what, int from, int to) {
        SchoolBoard x = new SchoolBoard();
        Checks.act(x, 0, "clause 1:pass 4 needs 50 if " + condition + ";clause 2:half;clause 3:rise 0 if year=0;");
        x.child(born, 0, 2);
        x.day(150);
        x.result(0, 1, 4, 50);
        x.grantSpan(0, what, 0, from, to);
        return x.passes(0, 1, 1, 150) >> 4;
    }

    private static void passesIf() {
        c.of("19 PASSES' IF: as of the YEAR's last DAY");
        c.due("age 8 on 199", 1, passedIf("age=8", -700, 0, 0, 0));
        c.due("age 9 on 199", 1, passedIf("age=9", -701, 0, 0, 0));
        c.due("not as of 200", 0, passedIf("age=9", -700, 0, 0, 0));
        String[] names = {"", "timer", "poor"};
        for (int what = 1; what < 3; what++) {
            c.due(names[what] + " up to 198", 0, passedIf(names[what] + "=1", -700, what, 100, 198));
            c.due(names[what] + " up to 199", 1, passedIf(names[what] + "=1", -700, what, 100, 199));
            c.due(names[what] + " from 199 on", 1, passedIf(names[what] + "=1", -700, what, 199, 250));
            c.due(names[what] + " from 200 on", 0, passedIf(names[what] + "=1", -700, what, 200, 250));
        }
        c.due("timer without one", 1, passedIf("timer=0", -700, 2, 100, 799));
        c.due("poor without one", 1, passedIf("poor=0", -700, 1, 100, 799));
        c.due("standard of the YEAR", 1, passedIf("standard=3", -700, 0, 0, 0));
        c.due("year", 1, passedIf("year=1", -700, 0, 0, 0));
        c.due("subject", 1, passedIf("subject=4", -700, 0, 0, 0));
        c.due("mark", 1, passedIf("mark=50", -700, 0, 0, 0));
        c.of("19 PASSES' IF: what isn't there is 0");
        c.due("day, half, passes, quarters", 1, passedIf("day=0 and half=0 and passes=0 and quarters=0", -700, 0, 0, 0));
        c.due("excused", 1, passedIf("excused=0", -700, 0, 199, 199));
        c.of("19 PASSES' IF: timer, poor as KNOWN by the DAY");
        for (int what = 1; what < 3; what++) {
            SchoolBoard x = board(1, 0, 10, "clause 1:pass 0 needs 0 if " + names[what] + "=1;clause 2:half;");
            x.result(0, 0, 0, 5);
            x.day(20);
            int number = x.grantSpan(0, what, 0, 99, 99);
            x.day(30);
            x.undo(number);
            int[][] edges = {{10, 0}, {19, 0}, {20, 1}, {29, 1}, {30, 0}, {799, 0}};
            for (int[] edge : edges) {
                c.due(names[what] + " from 20 to 29, by " + edge[0], edge[1], x.passes(0, 0, 0, edge[0]));
            }
        }
    }

    private static void grantAsked() {
        c.of("20 grant: YEARS and CODES 0 to 7, DAYS 0 to 799, what 0 to 5");
        SchoolBoard x = board(1, 2, 799, "clause 1:count present as 2;clause 2:grant 1 per head;");
        x.enter(0, 1, 0);
        x.mark(0, 0, 0, 799, 1, 1);
        int[] due = {1, 100, 1, -1, 1, 1};
        for (int what = 0; what < 6; what++) {
            c.due("YEAR 0, what " + what, due[what], x.grant(1, 0, 0, 799, what));
            c.due("YEAR 7, what " + what, due[what], x.grant(1, 7, 7, 799, what));
        }
        c.due("what -1", -1, x.grant(1, 0, 0, 799, -1));
        c.due("what 6", -1, x.grant(1, 0, 0, 799, 6));
        for (int what = 0; what < 6; what += 2) {
            c.due("school -1", -1, x.grant(-1, 0, 0, 799, what));
            c.due("the SCHOOL behind the last", -1, x.grant(2, 0, 0, 799, what));
            c.due("year -1", -1, x.grant(1, -1, 0, 799, what));
            c.due("year 8", -1, x.grant(1, 8, 0, 799, what));
            c.due("code -1", -1, x.grant(1, 0, -1, 799, what));
            c.due("code 8", -1, x.grant(1, 0, 8, 799, what));
            c.due("known -1", -1, x.grant(1, 0, 0, -1, what));
            c.due("known 800", -1, x.grant(1, 0, 0, 800, what));
        }
        c.due("known 0: KNOWN on 799 alone", 0, x.grant(1, 0, 0, 0, 2));
    }

    private static void average() {
        c.of("20 AVERAGE: QUARTERS by 4 times its DAYS that aren't shut, cut");
        SchoolBoard x = board(3, 1, 99, "clause 1:count present as 2;clause 2:count late as 1;");
        for (int child = 0; child < 3; child++) {
            x.enter(child, 0, 0);
        }
        x.mark(0, 0, 0, 99, 1, 1);
        c.due("400 by 400", 1, x.grant(0, 0, 0, 99, 0));
        int late = x.mark(0, 99, 1, 99, 1, 2);
        c.due("399 by 400", 0, x.grant(0, 0, 0, 99, 0));
        x.mark(1, 0, 0, 99, 1, 1);
        c.due("799 by 400", 1, x.grant(0, 0, 0, 99, 0));
        x.mark(2, 5, 0, 5, 0, 2);
        c.due("800 by 400", 2, x.grant(0, 0, 0, 99, 0));
        x.undo(late);
        c.due("801 by 400", 2, x.grant(0, 0, 0, 99, 0));
        c.of("20 AVERAGE: 0 without such");
        x.shut(0, 0, 98);
        c.due("one DAY: 8 by 4", 2, x.grant(0, 0, 0, 99, 0));
        c.due("its DAYS", 1, x.grant(0, 0, 0, 99, 1));
        x.shut(0, 99, 99);
        c.due("no DAY", 0, x.grant(0, 0, 0, 99, 0));
        c.due("its DAYS", 0, x.grant(0, 0, 0, 99, 1));
        c.of("20 AVERAGE: DAYS of the YEAR alone");
        SchoolBoard z = present(299, "clause 1:count present as 2;");
        z.shut(0, 99, 100);
        z.shut(0, 199, 200);
        c.due("DAYS of YEAR 0", 99, z.grant(0, 0, 0, 299, 1));
        c.due("DAYS of YEAR 1", 98, z.grant(0, 1, 0, 299, 1));
        c.due("AVERAGE of YEAR 1", 1, z.grant(0, 1, 0, 299, 0));
        z.shut(0, 110, 110);
        z.shut(0, 110, 111);
        c.due("DAYS shut twice are shut once", 96, z.grant(0, 1, 0, 299, 1));
        c.of("20 AVERAGE: QUARTERS while ON it (all CHILDREN)");
        SchoolBoard y = board(1, 2, 99, "clause 1:count present as 2;");
        y.mark(0, 0, 0, 99, 1, 1);
        y.shut(0, 1, 99);
        y.enter(0, 0, 0);
        y.enter(0, 1, 1);
        c.due("4 by 4, though it left", 1, y.grant(0, 0, 0, 99, 0));
        c.due("396 by 400", 0, y.grant(1, 0, 0, 99, 0));
        y.shut(1, 0, 0);
        c.due("396 by 396", 1, y.grant(1, 0, 0, 99, 0));
    }

    private static void grantChildren() {
        c.of("20 GRANT: its CHILDREN are those ON it on the YEAR's last DAY");
        SchoolBoard x = board(3, 2, 250, "clause 1:grant 5 per child;");
        x.enter(0, 0, 198);
        x.enter(0, 1, 199);
        x.enter(1, 0, 199);
        x.enter(2, 0, 200);
        c.due("SCHOOL 0 in YEAR 1", 1, x.grant(0, 1, 1, 250, 2));
        c.due("its LINE's CHILD", 1, x.line(0, 1, 1, 250, 0, 0));
        c.due("SCHOOL 1 in YEAR 1", 1, x.grant(1, 1, 1, 250, 2));
        c.due("SCHOOL 0 in YEAR 2", 2, x.grant(0, 2, 2, 250, 2));
        c.due("SCHOOL 0 in YEAR 0", 0, x.grant(0, 0, 0, 250, 2));
        c.due("SCHOOL 0 in YEAR 7", 2, x.grant(0, 7, 7, 250, 2));
        x.enter(1, -1, 199);
        c.due("on none", 0, x.grant(0, 1, 1, 250, 2));
        x.shut(1, 199, 199);
        c.due("shut on that DAY all the same", 1, x.grant(1, 1, 1, 250, 2));
        c.of("20 GRANT: by the CODE told");
        Checks.act(x, 3, "clause 1:grant 6 per child;");
        c.due("by that of 2", 5, x.grant(1, 1, 2, 250, 4));
        c.due("by that of 3", 6, x.grant(1, 1, 3, 250, 4));
    }

    private static SchoolBoard fullYear(int children, String act) {
        SchoolBoard x = board(children, 2, 99, "clause 1:count present as 2;clause 2:half;" + act);
        for (int i = 0; i < children; i++) {
            x.enter(i, 0, 0);
            x.mark(i, 0, 0, 99, 1, 1);
        }
        return x;
    }

    private static void staff() {
        c.of("20 LINES per head: AVERAGE, at most as many as STAFF covers");
        int[] due = {0, 10, 20, 30, 30};
        for (int covers = 0; covers < 5; covers++) {
            SchoolBoard x = fullYear(3, "clause 3:grant 10 per head;clause 4:staff " + covers + ";");
            c.due("3 heads, covers", covers, x.grant(0, 0, 0, 99, 3));
            c.due("3 heads, " + covers + " covered", due[covers], x.grant(0, 0, 0, 99, 4));
            c.due("AVERAGE stays", 3, x.grant(0, 0, 0, 99, 0));
        }
        c.of("20 LINES per head: AVERAGE, though there are more CHILDREN and STAFF covers more");
        int[] heads = {0, 10, 20, 20, 20};
        for (int covers = 0; covers < 5; covers++) {
            SchoolBoard x = fullYear(4, "clause 3:grant 10 per head;clause 4:staff " + covers + ";");
            x.mark(0, 0, 0, 99, 1, 0);
            x.mark(1, 0, 0, 98, 1, 0);
            c.due("AVERAGE of four", 2, x.grant(0, 0, 0, 99, 0));
            c.due("four CHILDREN", 4, x.grant(0, 0, 0, 99, 2));
            c.due("2 heads of 4, " + covers + " covered", heads[covers], x.grant(0, 0, 0, 99, 4));
        }
        c.of("20 STAFF: the least \"staff\" NUMBER; none: all");
        SchoolBoard two = fullYear(3, "clause 3:grant 10 per head;clause 9:staff 1;clause 8:staff 2;");
        c.due("the least NUMBER's", 2, two.grant(0, 0, 0, 99, 3));
        SchoolBoard all = fullYear(3, "clause 3:grant 10 per head;");
        c.due("none", -1, all.grant(0, 0, 0, 99, 3));
        c.due("all", 30, all.grant(0, 0, 0, 99, 4));
        all.teacher(0);
        c.due("none, with a PUPIL TEACHER there", -1, all.grant(0, 0, 0, 99, 3));
        c.due("all, with a PUPIL TEACHER there", 30, all.grant(0, 0, 0, 99, 4));
        all.teacher(0);
        c.due("none, with two", -1, all.grant(0, 0, 0, 99, 3));
        c.of("20 STAFF: the master and each PUPIL TEACHER there");
        two.teacher(1);
        c.due("one at another SCHOOL", 2, two.grant(0, 0, 0, 99, 3));
        two.teacher(0);
        c.due("one there", 4, two.grant(0, 0, 0, 99, 3));
        two.day(100);
        two.teacher(0);
        c.due("one from YEAR 1 on, in YEAR 0", 4, two.grant(0, 0, 0, 99, 3));
        c.due("in YEAR 1", 6, two.grant(0, 1, 0, 99, 3));
        c.due("in YEAR 7", 6, two.grant(0, 7, 0, 99, 3));
        c.due("the other SCHOOL", 4, two.grant(1, 1, 0, 99, 3));
        c.of("20 LINES per head: whose IF holds (year alone is there)");
        SchoolBoard x = fullYear(1, "clause 3:grant 1 per head if year=0;clause 4:grant 2 per head if year=1;"
                + "clause 5:grant 4 per head if age=0 and standard=0;clause 6:grant 8 per head if age>0 or standard>0;"
                + "clause 7:grant 16 per head if quarters=0 and passes=0 and timer=0 and poor=0;");
        c.due("1, 4 and 16", 21, x.grant(0, 0, 0, 99, 4));
        c.due("LINES", 3, x.grant(0, 0, 0, 99, 5));
        c.due("of YEAR 1 nobody's there, three LINES of 0", 3, x.grant(0, 1, 0, 99, 5));
        SchoolBoard y = present(199, "clause 1:count present as 2;clause 3:grant 1 per head if year=0;clause 4:grant 2 per head if year=1;");
        c.due("of YEAR 0", 1, y.grant(0, 0, 0, 199, 4));
        c.due("of YEAR 1", 2, y.grant(0, 1, 1, 199, 4));
        c.due("of YEAR 1 by the CODE of 0", 2, y.grant(0, 1, 0, 199, 4));
    }

    private static void qualifies() {
        c.of("20 CHILD that QUALIFIES: QUARTERS of the YEAR at least what the first \"attend\" tells");
        int[][] edges = {{399, 5}, {400, 5}, {401, 0}, {0, 5}, {9999, 0}};
        for (int[] edge : edges) {
            SchoolBoard x = fullYear(1, "clause 3:attend " + edge[0] + ";clause 4:grant 5 per child;");
            c.due("400 of " + edge[0], edge[1], x.grant(0, 0, 0, 99, 4));
            c.due("LINES", edge[1] / 5, x.grant(0, 0, 0, 99, 5));
        }
        SchoolBoard x = fullYear(1, "clause 3:attend 398;clause 4:grant 5 per child;");
        x.mark(0, 50, 0, 50, 0, 0);
        c.due("398 of 398", 5, x.grant(0, 0, 0, 99, 4));
        x.mark(0, 50, 1, 50, 1, 0);
        c.due("396 of 398", 0, x.grant(0, 0, 0, 99, 4));
        c.of("20 CHILD that QUALIFIES: none: any");
        SchoolBoard none = board(1, 1, 99, "clause 4:grant 5 per child;clause 5:attend 1 if age>7;");
        none.enter(0, 0, 99);
        c.due("no QUARTERS at all", 5, none.grant(0, 0, 0, 99, 4));
        c.of("20 CHILD that QUALIFIES: by the first \"attend\" whose IF holds");
        c.due("the lesser NUMBER's 401", 0,
                fullYear(1, "clause 5:attend 1;clause 4:grant 5 per child;clause 3:attend 401;").grant(0, 0, 0, 99, 4));
        c.due("the greater NUMBER's 1", 5,
                fullYear(1, "clause 5:attend 1;clause 4:grant 5 per child;clause 3:attend 401 if age>7;").grant(0, 0, 0, 99, 4));
        c.due("none whose IF holds", 5,
                fullYear(1, "clause 4:grant 5 per child;clause 3:attend 401 if age>7;").grant(0, 0, 0, 99, 4));
        c.of("20 CHILD that QUALIFIES: for LINES per pass too, not those per head");
        SchoolBoard y = fullYear(1, "clause 3:attend 401;clause 4:grant 5 per child;clause 5:grant 7 per pass 0;"
                + "clause 6:pass 0 needs 0;clause 7:grant 1 per head;");
        y.result(0, 0, 0, 0);
        c.due("the head's alone", 1, y.grant(0, 0, 0, 99, 4));
        c.due("but it's one of its CHILDREN", 1, y.grant(0, 0, 0, 99, 2));
        Checks.act(y, 0, "omit 3;");
        c.due("all three", 13, y.grant(0, 0, 0, 99, 4));
        c.of("20 CHILD that QUALIFIES: by its QUARTERS at other SCHOOLS too");
        SchoolBoard z = fullYear(1, "clause 3:attend 400;clause 4:grant 5 per child;");
        z.enter(0, 1, 99);
        c.due("400 of 400, one DAY there", 5, z.grant(1, 0, 0, 99, 4));
    }

    /** The GRANT of one CHILD with one PASS (60 in SUBJECT 3), by one clause; a span of what. */
    private static int granted(String clause, int born, int what, int from, int to) {
        SchoolBoard x = new SchoolBoard();
        Checks.act(x, 0, "clause 1:count present as 2;clause 2:half;clause 3:pass 3 needs 60;clause 4:pass 2 needs 99;" + clause);
        x.child(born, 0, 2);
        x.school(0, 0, 0);
        x.day(99);
        x.enter(0, 0, 0);
        x.mark(0, 0, 0, 0, 1, 1);
        x.result(0, 0, 3, 60);
        x.result(0, 0, 2, 98);
        x.grantSpan(0, what, 0, from, to);
        return x.grant(0, 0, 0, 99, 4);
    }

    private static void grantIf() {
        String[] per = {"per child if ", "per pass 3 if "};
        for (String each : per) {
            String clause = "clause 9:grant 5 " + each;
            c.of("20 GRANT's IF (" + each + "): as of the YEAR's last DAY");
            c.due("age 7 on 99", 5, granted(clause + "age=7;", -700, 0, 0, 0));
            c.due("age 8 on 99", 5, granted(clause + "age=8;", -701, 0, 0, 0));
            c.due("timer without one", 5, granted(clause + "timer=0;", -700, 2, 0, 799));
            c.due("poor without one", 5, granted(clause + "poor=0;", -700, 1, 0, 799));
            c.due("timer up to 98", 0, granted(clause + "timer=1;", -700, 1, 0, 98));
            c.due("timer up to 99", 5, granted(clause + "timer=1;", -700, 1, 0, 99));
            c.due("poor from 99 on", 5, granted(clause + "poor=1;", -700, 2, 99, 300));
            c.due("poor from 100 on", 0, granted(clause + "poor=1;", -700, 2, 100, 300));
            c.due("standard", 5, granted(clause + "standard=2;", -700, 0, 0, 0));
            c.due("year", 5, granted(clause + "year=0;", -700, 0, 0, 0));
            c.due("passes: how many", 5, granted(clause + "passes=1;", -700, 0, 0, 0));
            c.due("quarters", 5, granted(clause + "quarters=4;", -700, 0, 0, 0));
            c.due("what isn't there is 0", 5, granted(clause + "day=0 and half=0 and excused=0;", -700, 0, 99, 99));
        }
        c.of("20 GRANT's IF: subject, mark for a pass");
        c.due("subject", 5, granted("clause 9:grant 5 per pass 3 if subject=3;", -700, 0, 0, 0));
        c.due("mark", 5, granted("clause 9:grant 5 per pass 3 if mark=60;", -700, 0, 0, 0));
        c.due("subject per child is 0", 5, granted("clause 9:grant 5 per child if subject=0;", -700, 0, 0, 0));
        c.due("mark per child is 0", 5, granted("clause 9:grant 5 per child if mark=0;", -700, 0, 0, 0));
        c.due("subject and mark per child are 0 behind a pass's LINE", 9,
                granted("clause 9:grant 5 per pass 3;clause 10:grant 4 per child if subject=0 and mark=0;", -700, 0, 0, 0));
        c.due("mark in attend is 0", 5, granted("clause 9:grant 5 per child;clause 10:attend 999 if mark>0;", -700, 0, 0, 0));
        c.due("passes in attend", 0, granted("clause 9:grant 5 per child;clause 10:attend 999 if passes=1;", -700, 0, 0, 0));
        c.due("quarters in attend", 0, granted("clause 9:grant 5 per child;clause 10:attend 999 if quarters=4;", -700, 0, 0, 0));
        c.due("poor in attend", 0, granted("clause 9:grant 5 per child;clause 10:attend 999 if poor=1;", -700, 2, 99, 99));
        c.of("20 GRANT per pass: for a PASS in that SUBJECT");
        for (int subject = 0; subject < 6; subject++) {
            c.due("SUBJECT " + subject, subject == 3 ? 5 : 0, granted("clause 9:grant 5 per pass " + subject + ";", -700, 0, 0, 0));
        }
    }

    private static void cap() {
        c.of("20 GRANT: all that is above \"cap\" times AVERAGE");
        int[][] edges = {{29, 58, 4}, {30, 60, 3}, {31, 60, 3}, {0, 0, 4}, {9999, 60, 3}};
        for (int[] edge : edges) {
            SchoolBoard x = fullYear(2, "clause 3:grant 20 per head;clause 4:grant 10 per child;clause 5:cap " + edge[0] + ";");
            c.due("60 of 2 times " + edge[0], edge[1], x.grant(0, 0, 0, 99, 4));
            c.due("LINES", edge[2], x.grant(0, 0, 0, 99, 5));
            c.due("the LINE of the cap", edge[2] == 4 ? edge[1] - 60 : NO_SUCH, x.line(0, 0, 0, 99, 3, 2));
            c.due("its clause", edge[2] == 4 ? 5 : NO_SUCH, x.line(0, 0, 0, 99, 3, 1));
            c.due("its CHILD", edge[2] == 4 ? -1 : NO_SUCH, x.line(0, 0, 0, 99, 3, 0));
        }
        c.of("20 GRANT: the least \"cap\" NUMBER's");
        SchoolBoard two = fullYear(1, "clause 3:grant 20 per head;clause 9:cap 1;clause 8:cap 15;");
        c.due("15", 15, two.grant(0, 0, 0, 99, 4));
        c.due("its LINE's clause", 8, two.line(0, 0, 0, 99, 1, 1));
        c.of("20 GRANT: none but a \"cap\" is one");
        SchoolBoard others = fullYear(1, "clause 3:grant 20 per head;clause 10:attend 0;clause 11:pass 0 needs 0;clause 12:rise 0;"
                + "clause 13:fee 0;clause 14:room 0;clause 15:staff 9;clause 16:step 0;clause 17:pay 0 is 0;clause 18:teach 0 is 0;"
                + "clause 19:small 0;clause 20:excuse 0 as 0;");
        c.due("one clause of each other kind", 20, others.grant(0, 0, 0, 99, 4));
        c.due("LINES", 1, others.grant(0, 0, 0, 99, 5));
        String[] bodies = {"attend 0", "fee 0", "room 0", "step 0", "small 0", "rise 0", "half"};
        for (String body : bodies) {
            c.due(body, 20, fullYear(1, "clause 3:grant 20 per head;clause 4:" + body + ";").grant(0, 0, 0, 99, 4));
        }
        c.of("20 GRANT: AVERAGE 0 takes all");
        SchoolBoard none = board(1, 1, 99, "clause 1:grant 7 per child;clause 2:cap 50;");
        none.enter(0, 0, 99);
        c.due("7 less 7", 0, none.grant(0, 0, 0, 99, 4));
        c.due("LINES", 2, none.grant(0, 0, 0, 99, 5));
        c.due("the LINE", -7, none.line(0, 0, 0, 99, 1, 2));
        SchoolBoard empty = board(0, 1, 99, "clause 2:cap 0;");
        c.due("nothing isn't above nothing", 0, empty.grant(0, 0, 0, 99, 5));
    }

    private static void line() {
        c.of("21 LINES in this order: heads by NUMBERS, CHILD by CHILD by NUMBERS, the cap");
        SchoolBoard x = fullYear(3, "clause 60:grant 3 per head;clause 10:grant 2 per pass 1;clause 9:grant 4 per child;"
                + "clause 12:grant 1 per pass 0;clause 11:grant 6 per child;clause 13:pass 0 needs 1;clause 14:pass 1 needs 1;"
                + "clause 15:cap 1;clause 50:grant 5 per head;");
        x.result(2, 0, 0, 5);
        x.result(2, 0, 1, 5);
        x.enter(1, -1, 99);
        int[][] due = {{-1, 50, 10}, {-1, 60, 6}, {0, 9, 4}, {0, 11, 6}, {2, 9, 4}, {2, 10, 2}, {2, 11, 6}, {2, 12, 1}, {-1, 15, -37}};
        c.due("how many", due.length, x.grant(0, 0, 0, 99, 5));
        for (int k = 0; k < due.length; k++) {
            c.due("CHILD of " + k, due[k][0], x.line(0, 0, 0, 99, k, 0));
            c.due("clause of " + k, due[k][1], x.line(0, 0, 0, 99, k, 1));
            c.due("pence of " + k, due[k][2], x.line(0, 0, 0, 99, k, 2));
        }
        c.due("GRANT is all of them", 2, x.grant(0, 0, 0, 99, 4));
        c.of("21 line: -1000000: none such");
        c.due("k -1", NO_SUCH, x.line(0, 0, 0, 99, -1, 0));
        c.due("k behind the last", NO_SUCH, x.line(0, 0, 0, 99, due.length, 0));
        c.due("what -1", NO_SUCH, x.line(0, 0, 0, 99, 0, -1));
        c.due("what 3", NO_SUCH, x.line(0, 0, 0, 99, 0, 3));
        c.due("school -1", NO_SUCH, x.line(-1, 0, 0, 99, 0, 0));
        c.due("the SCHOOL behind the last", NO_SUCH, x.line(2, 0, 0, 99, 0, 0));
        c.due("year -1", NO_SUCH, x.line(0, -1, 0, 99, 0, 0));
        c.due("year 8", NO_SUCH, x.line(0, 8, 0, 99, 0, 0));
        c.due("code -1", NO_SUCH, x.line(0, 0, -1, 99, 0, 0));
        c.due("code 8", NO_SUCH, x.line(0, 0, 8, 99, 0, 0));
        c.due("known -1", NO_SUCH, x.line(0, 0, 0, -1, 0, 0));
        c.due("known 800", NO_SUCH, x.line(0, 0, 0, 800, 0, 0));
        c.due("a GRANT without LINES", NO_SUCH, board(1, 1, 0, "omit 1;").line(0, 0, 0, 0, 0, 0));
        mostLines();
        c.of("21 line: of the GRANT asked for, whichever was asked ahead of it");
        c.due("the other SCHOOL's", 0, x.line(1, 0, 0, 99, 0, 2));
        c.due("YEAR 1's", 0, x.line(0, 1, 0, 99, 0, 2));
        c.due("by 98", 0, x.line(0, 0, 0, 98, 0, 2));
        c.due("this one's", 10, x.line(0, 0, 0, 99, 0, 2));
    }

    /** 59 clauses of 1 penny for each of 40 CHILDREN, and a cap. */
    private static void mostLines() {
        c.of("21 LINES: as many as can be");
        SchoolBoard x = new SchoolBoard();
        x.school(0, 0, 0);
        for (int child = 0; child < 40; child++) {
            x.child(-700, 0, 0);
            x.enter(child, 0, 0);
        }
        for (int part = 0; part < 2; part++) {
            StringBuilder act = new StringBuilder();
            for (int number = 1 + 30 * part; number <= 30 + 30 * part; number++) {
                act.append("clause").append(number).append(number < 60 ? ":grant 1per child;" : ":cap 0;");
            }
            c.due("act " + part, part, Checks.act(x, 0, act.toString()));
        }
        c.due("how many", 59 * 40 + 1, x.grant(0, 0, 0, 0, 5));
        c.due("GRANT", 0, x.grant(0, 0, 0, 0, 4));
        c.due("CHILD of the last but one", 39, x.line(0, 0, 0, 0, 59 * 40 - 1, 0));
        c.due("its clause", 59, x.line(0, 0, 0, 0, 59 * 40 - 1, 1));
        c.due("clause of the last", 60, x.line(0, 0, 0, 0, 59 * 40, 1));
        c.due("pence of the last", -59 * 40, x.line(0, 0, 0, 0, 59 * 40, 2));
        c.due("behind the last", NO_SUCH, x.line(0, 0, 0, 0, 59 * 40 + 1, 2));
    }

    private static void feesAsked() {
        c.of("22 fees: DAYS 0 to 799, what 0 to 2; -1000000: none such");
        SchoolBoard x = board(2, 1, 0, "clause 1:fee 3;");
        x.enter(0, 0, 0);
        x.pay(0, 5);
        int[] due = {480, 5, 475};
        for (int what = 0; what < 3; what++) {
            c.due("day 0, what " + what, new int[] {3, 5, -2}[what], x.fees(0, 0, what));
            c.due("day 799, what " + what, due[what], x.fees(0, 799, what));
            c.due("day -1", NO_SUCH, x.fees(0, -1, what));
            c.due("day 800", NO_SUCH, x.fees(0, 800, what));
            c.due("child -1", NO_SUCH, x.fees(-1, 0, what));
            c.due("the CHILD behind the last", NO_SUCH, x.fees(2, 0, what));
        }
        c.due("what -1", NO_SUCH, x.fees(0, 0, -1));
        c.due("what 3", NO_SUCH, x.fees(0, 0, 3));
    }

    private static void feesByWeeks() {
        c.of("22 FEES: for each WEEK (5 DAYS) of which the first DAY is up to a DAY");
        SchoolBoard x = board(1, 1, 0, "clause 1:fee 3;");
        x.enter(0, 0, 0);
        int[][] edges = {{0, 3}, {4, 3}, {5, 6}, {6, 6}, {9, 6}, {10, 9}, {94, 57}, {95, 60}, {99, 60}, {100, 63}, {799, 480}};
        for (int[] edge : edges) {
            c.due("up to " + edge[0], edge[1], x.fees(0, edge[0], 0));
        }
        c.of("22 FEES: ON a SCHOOL then");
        SchoolBoard y = board(1, 1, 30, "clause 1:fee 3;");
        y.enter(0, 0, 6);
        y.enter(0, -1, 15);
        c.due("from 6 on, up to 9", 0, y.fees(0, 9, 0));
        c.due("up to 10", 3, y.fees(0, 10, 0));
        c.due("on none from 15 on", 3, y.fees(0, 799, 0));
        y.enter(0, 0, 5);
        c.due("from 5 on", 6, y.fees(0, 799, 0));
        y.enter(0, -1, 16);
        y.enter(0, 0, 15);
        c.due("on none from 16 on", 9, y.fees(0, 799, 0));
        c.of("22 FEES: a SCHOOL that isn't shut then");
        y.shut(0, 6, 9);
        c.due("shut from 6 to 9", 9, y.fees(0, 799, 0));
        int shut = y.shut(0, 5, 5);
        c.due("shut on 5", 6, y.fees(0, 799, 0));
        c.of("22 FEES: as KNOWN TODAY");
        y.undo(shut);
        c.due("UNDONE", 9, y.fees(0, 799, 0));
        c.of("22 FEES: 0 if LET OFF then");
        int off = y.grantSpan(0, 2, 0, 5, 10);
        c.due("from 5 to 10", 3, y.fees(0, 799, 0));
        y.undo(off);
        y.grantSpan(0, 2, 0, 6, 9);
        c.due("from 6 to 9", 9, y.fees(0, 799, 0));
        y.grantSpan(0, 2, 0, 15, 15);
        c.due("on 15 too", 6, y.fees(0, 799, 0));
        c.of("22 FEES: by the first DAY's YEAR's CODE");
        SchoolBoard z = board(1, 1, 0, "clause 1:fee 3;");
        z.enter(0, 0, 0);
        Checks.act(z, 1, "clause 1:fee 4;");
        Checks.act(z, 2, "omit 1;");
        c.due("up to 99", 60, z.fees(0, 99, 0));
        c.due("up to 100", 64, z.fees(0, 100, 0));
        c.due("up to 199", 140, z.fees(0, 199, 0));
        c.due("none: 0", 140, z.fees(0, 799, 0));
    }

    /** The FEE of the WEEK from a DAY on alone, by an IF. */
    private static int fee(int day, String condition) {
        SchoolBoard x = board(1, 1, day, "clause 1:half;clause 3:fee 6 if " + condition + ";clause 4:fee 1;clause 5:rise 0 if year=0;");
        x.enter(0, 0, day);
        x.grantSpan(0, 1, 0, 105, 105);
        x.grantSpan(0, 0, 0, 0, 799);
        return x.fees(0, day + 4, 0);
    }

    private static void feesIf() {
        c.of("22 FEES' IF: age, standard, year, timer, day of the WEEK's first DAY");
        c.due("age 7 on 95", 6, fee(95, "age=7"));
        c.due("age 8 on 100", 6, fee(100, "age=8"));
        c.due("standard on 95", 6, fee(95, "standard=2"));
        c.due("standard on 100", 6, fee(100, "standard=3"));
        c.due("year on 95", 6, fee(95, "year=0"));
        c.due("year on 100", 6, fee(100, "year=1"));
        c.due("timer on 100", 1, fee(100, "timer=1"));
        c.due("timer on 105", 6, fee(105, "timer=1"));
        c.due("timer on 110", 1, fee(110, "timer=1"));
        c.due("day on 95", 6, fee(95, "day=95"));
        c.due("day on 100", 6, fee(100, "day=0"));
        c.of("22 FEES: the first \"fee\" whose IF holds");
        c.due("the second one", 1, fee(100, "age>8"));
        c.of("22 FEES' IF: what isn't there is 0");
        c.due("half, excused, passes, quarters", 6, fee(100, "half=0 and excused=0 and passes=0 and quarters=0"));
        c.due("subject, mark, poor", 6, fee(100, "subject=0 and mark=0 and poor=0"));
        SchoolBoard had = board(1, 1, 100, "clause 1:fee 6 if passes=0 and poor=0 and timer=0;clause 2:pass 5 needs 0;"
                + "clause 3:half;clause 4:rise 1;");
        had.enter(0, 0, 100);
        had.result(0, 0, 5, 60);
        had.grantSpan(0, 1, 0, 0, 99);
        had.grantSpan(0, 2, 0, 0, 99);
        c.due("in the YEAR behind one with a PASS, poor and timer", 6, had.fees(0, 104, 0));
    }

    private static void paidAndOwed() {
        c.of("22 PAID: pence told; OWED: FEES less PAID");
        SchoolBoard x = board(2, 1, 0, "clause 1:fee 3;");
        x.enter(0, 0, 0);
        c.due("nothing PAID", 0, x.fees(0, 4, 1));
        c.due("OWED", 3, x.fees(0, 4, 2));
        x.pay(0, 3);
        c.due("PAID", 3, x.fees(0, 4, 1));
        c.due("OWED 0", 0, x.fees(0, 4, 2));
        x.pay(0, 1);
        c.due("OWED below 0", -1, x.fees(0, 4, 2));
        c.due("another CHILD's", 0, x.fees(1, 4, 1));
        c.due("another CHILD's", 0, x.fees(1, 4, 2));
    }

    private static SchoolBoard payed(int pence) {
        SchoolBoard x = board(2, 1, 0, "clause 1:fee 3;");
        for (int left = pence; left > 0; left -= Math.min(left, 9999)) {
            x.pay(0, Math.min(left, 9999));
        }
        return x;
    }

    private static void pay() {
        c.of("23 pay: 1 to 9,999 pence");
        c.due("1", 1, payed(0).pay(0, 1));
        c.due("2", 2, payed(0).pay(0, 2));
        c.due("9999", 9999, payed(0).pay(0, 9999));
        c.due("9998", 9998, payed(0).pay(0, 9998));
        c.refused("0", -1, State::board, x -> x.pay(0, 0));
        c.refused("-1", -1, State::board, x -> x.pay(0, -1));
        c.refused("10000", -1, State::board, x -> x.pay(0, 10000));
        c.of("23 pay: a CHILD that is there");
        c.due("the last one", 5, payed(0).pay(1, 5));
        c.refused("child -1", -1, State::board, x -> x.pay(-1, 5));
        c.refused("the CHILD behind the last", -1, State::board, x -> x.pay(3, 5));
        c.of("23 pay: none above 999,999");
        c.due("999,998 and 1", 999999, payed(999998).pay(0, 1));
        c.due("990,000 and 9,999", 999999, payed(990000).pay(0, 9999));
        c.due("another CHILD's", 9999, payed(999999).pay(1, 9999));
        c.refused("999,999 and 1", -1, () -> payed(999999), x -> x.pay(0, 1));
        c.refused("999,998 and 2", -1, () -> payed(999998), x -> x.pay(0, 2));
        c.refused("990,001 and 9,999", -1, () -> payed(990001), x -> x.pay(0, 9999));
        SchoolBoard x = payed(999998);
        x.pay(0, 2);
        c.due("all so far behind a refused one", 999999, x.pay(0, 1));
    }

    private static void holds() {
        c.of("24 ROOM: cubic feet by what the least \"room\" NUMBER tells, cut");
        int[][] edges = {{0, 50, 0}, {49, 50, 0}, {50, 50, 1}, {51, 50, 1}, {99, 50, 1}, {100, 50, 2}, {9999, 1, 9999},
            {9999, 9999, 1}, {9998, 9999, 0}, {7, 0, -1}, {0, 0, -1}};
        for (int[] edge : edges) {
            SchoolBoard x = new SchoolBoard();
            x.school(0, 0, edge[0]);
            Checks.act(x, 0, "clause 9:room 3;clause 8:room " + edge[1] + ";");
            c.due(edge[0] + " by " + edge[1], edge[2], x.holds(0, 0));
        }
        c.of("24 ROOM: by the YEAR's CODE");
        SchoolBoard x = board(0, 2, 0, "omit 1;");
        Checks.act(x, 1, "clause 1:room 500;");
        Checks.act(x, 7, "clause 1:room 100;");
        int[] due = {-1, 2, 2, 2, 2, 2, 2, 10};
        for (int year = 0; year < 8; year++) {
            c.due("YEAR " + year, due[year], x.holds(1, year));
        }
        c.of("24 holds: -2: none such");
        c.due("year -1", -2, x.holds(0, -1));
        c.due("year 8", -2, x.holds(0, 8));
        c.due("school -1", -2, x.holds(-1, 1));
        c.due("the SCHOOL behind the last", -2, x.holds(2, 1));
    }

    private static SchoolBoard taught(int many) {
        SchoolBoard x = board(1, 2, 0, "clause 1:staff 1;");
        for (int i = 0; i < many; i++) {
            x.teacher(i % 2);
        }
        return x;
    }

    private static void teacher() {
        c.of("25 teacher: 20 are there");
        SchoolBoard x = taught(18);
        c.due("the 19th", 18, x.teacher(0));
        c.due("at no SCHOOL takes no number", -1, x.teacher(2));
        c.due("the 20th", 19, x.teacher(1));
        c.due("the 21st", -1, x.teacher(0));
        c.due("count(6)", 20, x.count(6));
        c.due("STAFF as it was", 11, x.grant(0, 0, 0, 0, 3));
        c.refused("the 21st", -1, () -> taught(20), y -> y.teacher(0));
        c.of("25 teacher: a SCHOOL that is there");
        c.refused("school -1", -1, State::board, y -> y.teacher(-1));
        c.refused("the SCHOOL behind the last", -1, State::board, y -> y.teacher(2));
        c.of("25 teacher: from TODAY's YEAR on");
        int[][] edges = {{99, 0}, {100, 1}, {199, 1}, {200, 2}, {799, 7}};
        for (int[] edge : edges) {
            SchoolBoard y = taught(0);
            y.day(edge[0]);
            y.teacher(0);
            c.due("on " + edge[0] + ", YEAR " + edge[1], 1, y.teacherOf(0, edge[1], 0));
            c.due("on " + edge[0] + ", the YEAR ahead", -1, y.teacherOf(0, edge[1] - 1, 0));
        }
    }

    private static SchoolBoard apprentice() {
        SchoolBoard x = board(1, 1, 250, "clause 1:step 50;clause 2:pay 1 is 7;clause 3:pay 2 is 9;");
        x.teacher(0);
        x.day(450);
        return x;
    }

    private static void proof() {
        c.of("26 proof: for a YEAR from the first on, up to TODAY's YEAR");
        c.yes("the first", apprentice().proof(0, 2, 50));
        c.yes("TODAY's", apprentice().proof(0, 4, 50));
        c.yes("between", apprentice().proof(0, 3, 50));
        c.refused("the one ahead of the first", 0, ReckoningEdgesTest::apprentice, x -> Checks.bit(x.proof(0, 1, 50)));
        c.refused("the one behind TODAY's", 0, ReckoningEdgesTest::apprentice, x -> Checks.bit(x.proof(0, 5, 50)));
        c.refused("year -1", 0, ReckoningEdgesTest::apprentice, x -> Checks.bit(x.proof(0, -1, 50)));
        c.refused("year 8", 0, ReckoningEdgesTest::apprentice, x -> Checks.bit(x.proof(0, 8, 50)));
        int[][] ends = {{99, 0}, {100, 1}, {199, 1}, {200, 2}, {699, 6}, {700, 7}, {799, 7}};
        for (int[] end : ends) {
            SchoolBoard x = taught(1);
            x.day(end[0]);
            c.yes("on " + end[0] + " for YEAR " + end[1], x.proof(0, end[1], 50));
            c.no("on " + end[0] + " for the YEAR behind it", x.proof(0, end[1] + 1, 50));
        }
        c.of("26 proof: 0 to 100");
        c.yes("mark 0", apprentice().proof(0, 2, 0));
        c.yes("mark 100", apprentice().proof(0, 2, 100));
        c.refused("mark -1", 0, ReckoningEdgesTest::apprentice, x -> Checks.bit(x.proof(0, 2, -1)));
        c.refused("mark 101", 0, ReckoningEdgesTest::apprentice, x -> Checks.bit(x.proof(0, 2, 101)));
        c.of("26 proof: a PUPIL TEACHER that is there");
        c.refused("teacher -1", 0, ReckoningEdgesTest::apprentice, x -> Checks.bit(x.proof(-1, 2, 50)));
        c.refused("the one behind the last", 0, ReckoningEdgesTest::apprentice, x -> Checks.bit(x.proof(1, 2, 50)));
        c.of("26 proof: the greatest of a YEAR holds");
        SchoolBoard x = apprentice();
        x.proof(0, 2, 49);
        c.due("49", 1, x.teacherOf(0, 3, 0));
        x.proof(0, 2, 50);
        c.due("49, 50", 2, x.teacherOf(0, 3, 0));
        x.proof(0, 2, 0);
        c.due("49, 50, 0", 2, x.teacherOf(0, 3, 0));
        c.due("of its YEAR alone", 2, x.teacherOf(0, 4, 0));
        SchoolBoard two = board(1, 2, 0, "clause 1:step 50;");
        two.teacher(0);
        two.teacher(1);
        two.proof(0, 0, 90);
        two.proof(1, 0, 0);
        c.due("90 of the one ahead of it", 1, two.teacherOf(1, 1, 0));
        two.proof(1, 0, 50);
        two.proof(1, 0, 10);
        c.due("0, 50, 10 of the second", 2, two.teacherOf(1, 1, 0));
        two.proof(0, 0, 10);
        c.due("90, 10 of the first", 2, two.teacherOf(0, 1, 0));
        c.of("26 proof: each PUPIL TEACHER has PROOFS of its own");
        SchoolBoard many = taught(20);
        many.day(799);
        many.proof(1, 7, 0);
        many.proof(2, 0, 0);
        many.proof(19, 6, 0);
        for (int teacher = 0; teacher < 20; teacher++) {
            c.due("STEP of " + teacher + " in YEAR 1", teacher == 2 ? 2 : 1, many.teacherOf(teacher, 1, 0));
            c.due("STEP of " + teacher + " in YEAR 7", teacher == 2 || teacher == 19 ? 2 : 1, many.teacherOf(teacher, 7, 0));
        }
    }

    /** STEP in each YEAR of one whose first YEAR is 0, with a PROOF of 50 for each YEAR, by the ACTS told. */
    private static void steps(String what, int[] due, String act, int proofs) {
        SchoolBoard x = board(0, 1, 0, act);
        x.teacher(0);
        x.day(799);
        for (int year = 0; year < proofs; year++) {
            x.proof(0, year, 50);
        }
        for (int year = 0; year < 8; year++) {
            c.due(what + ", YEAR " + year, due[year], x.teacherOf(0, year, 0));
        }
    }

    private static void step() {
        c.of("27 STEP: 1 in its first; 1 more behind each YEAR for which a PROOF of at least \"step\" is there");
        steps("50 of 50", new int[] {1, 2, 3, 3, 3, 3, 3, 3}, "clause 1:step 50;", 2);
        steps("50 of 49", new int[] {1, 2, 3, 3, 3, 3, 3, 3}, "clause 1:step 49;", 2);
        steps("50 of 51", new int[] {1, 1, 1, 1, 1, 1, 1, 1}, "clause 1:step 51;", 8);
        steps("the least NUMBER's", new int[] {1, 1, 1, 1, 1, 1, 1, 1}, "clause 2:step 1;clause 1:step 51;", 8);
        c.of("27 STEP: 5 at most");
        steps("all YEARS", new int[] {1, 2, 3, 4, 5, 5, 5, 5}, "clause 1:step 50;", 8);
        steps("three YEARS", new int[] {1, 2, 3, 4, 4, 4, 4, 4}, "clause 1:step 50;", 3);
        c.of("27 STEP: no clause: 0, but a PROOF must be there");
        steps("without a clause", new int[] {1, 2, 2, 2, 2, 2, 2, 2}, "omit 1;", 1);
        steps("without a PROOF", new int[] {1, 1, 1, 1, 1, 1, 1, 1}, "clause 1:step 0;", 0);
        c.of("27 STEP: what the YEAR's \"step\" tells");
        SchoolBoard x = board(0, 1, 0, "clause 1:step 50;");
        Checks.act(x, 1, "clause 1:step 51;");
        Checks.act(x, 2, "clause 1:step 49;");
        x.teacher(0);
        x.day(299);
        for (int year = 0; year < 3; year++) {
            x.proof(0, year, 50);
        }
        int[] due = {1, 2, 2, 3, 3};
        for (int year = 0; year < 5; year++) {
            c.due("YEAR " + year, due[year], x.teacherOf(0, year, 0));
        }
        SchoolBoard none = board(0, 1, 0, "omit 1;");
        none.teacher(0);
        none.proof(0, 0, 0);
        c.due("a PROOF of 0", 2, none.teacherOf(0, 1, 0));
    }

    private static void payOfStep() {
        c.of("27 PAY: what the first \"pay\" of that STEP tells; 0 without");
        SchoolBoard x = board(0, 1, 0, "clause 9:pay 1 is 10;clause 8:pay 1 is 11;clause 7:pay 2 is 20;clause 6:pay 4 is 9999;"
                + "clause 5:pay 5 is 0;clause 4:pay 33 is 77;clause 3:pay 0 is 66;");
        x.teacher(0);
        x.day(799);
        for (int year = 0; year < 8; year++) {
            x.proof(0, year, 1);
        }
        int[] due = {11, 20, 0, 9999, 0, 0, 0, 0};
        for (int year = 0; year < 8; year++) {
            c.due("YEAR " + year, due[year], x.teacherOf(0, year, 1));
        }
        c.of("27 PAY: by the YEAR's CODE");
        SchoolBoard y = board(0, 1, 0, "clause 1:pay 1 is 10;");
        y.teacher(0);
        Checks.act(y, 3, "clause 1:pay 1 is 12;");
        c.due("YEAR 2", 10, y.teacherOf(0, 2, 1));
        c.due("YEAR 3", 12, y.teacherOf(0, 3, 1));
        c.of("27 teacherOf: NONE: none such, ahead of the first");
        SchoolBoard z = apprentice();
        for (int what = 0; what < 2; what++) {
            c.due("the first YEAR", what == 0 ? 1 : 7, z.teacherOf(0, 2, what));
            c.due("YEAR 7", what == 0 ? 1 : 7, z.teacherOf(0, 7, what));
            c.due("the YEAR ahead", -1, z.teacherOf(0, 1, what));
            c.due("year -1", -1, z.teacherOf(0, -1, what));
            c.due("year 8", -1, z.teacherOf(0, 8, what));
            c.due("teacher -1", -1, z.teacherOf(-1, 2, what));
            c.due("the one behind the last", -1, z.teacherOf(1, 2, what));
        }
        c.due("what -1", -1, z.teacherOf(0, 2, -1));
        c.due("what 2", -1, z.teacherOf(0, 2, 2));
    }
}
