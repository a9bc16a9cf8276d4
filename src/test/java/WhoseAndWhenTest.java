/**
 * Whose CHILD, of which DAY and YEAR, by which CODE and as KNOWN by when each reckoning goes: on boards where no two
 * of these are the same, so that none can stand for another.
 */
public final class WhoseAndWhenTest {
    private static final Checks c = new Checks();
    private static final int[] BORN = {-1000, -700, -800, -900};
    private static final int[] STANDARDS = {0, 1, 2, 4};

    public static void main(String[] args) {
        certificateKnown();
        certificateCode();
        quartersToCome();
        yearByDays();
        standardByOwnCodes();
        passesOfTheYear();
        grantByCode();
        grantOfTheYear();
        grantOfEachChild();
        averageToCome();
        grantAskedFor();
        enteringOfEachChild();
        enteringFullHours();
        enteringAskedFor();
        worthByDays();
        sitesOfSchools();
        teachersOwnYears();
        lastDayAnew();
        certificateOfEachChild();
        excusedToCome();
        standardFromNothing();
        passesOfEachChild();
        passesByEachCode();
        grantOfLaterYear();
        lineByCode();
        lineAnew();
        feesOfEachYear();
        quartersAsByNow();
        c.end();
    }

    private static void act(SchoolBoard x, int year, String text) {
        c.due("a test's own act [" + text + "]", x.count(5), Checks.act(x, year, text));
    }

    private static void certificateKnown() {
        c.of("10 grantSpan: a CERTIFICATE's STANDARD as KNOWN TODAY, though all its DAYS are past");
        SchoolBoard x = Checks.board(1, 0);
        act(x, 0, "clause 1:half if standard=3;clause 2:pass 5 needs 0;clause 3:rise 1;");
        x.day(250);
        c.due("without the RESULT", -2, x.grantSpan(0, 1, 0, 100, 200));
        int number = x.result(0, 0, 5, 80);
        c.due("with a RESULT told TODAY", 1, x.grantSpan(0, 1, 0, 100, 200));
        x.day(260);
        x.undo(number);
        c.due("which is UNDONE TODAY", -2, x.grantSpan(0, 1, 0, 100, 255));
    }

    private static void certificateCode() {
        c.of("10 grantSpan: a CERTIFICATE by its first DAY's YEAR's CODE, whatever TODAY's is");
        SchoolBoard x = Checks.board(1, 0);
        act(x, 0, "clause 1:half;");
        act(x, 2, "omit 1;");
        act(x, 4, "clause 1:half;");
        x.day(250);
        c.due("from 199 to 250", 0, x.grantSpan(0, 1, 0, 199, 250));
        c.due("from 200 to 450", -2, x.grantSpan(0, 1, 0, 200, 450));
        c.due("from 399 to 450", -2, x.grantSpan(0, 1, 0, 399, 450));
        c.due("from 400 to 450", 1, x.grantSpan(0, 1, 0, 400, 450));
    }

    /** CHILDREN of STANDARDS 2 and 0, that rise each YEAR, on SCHOOL 1 and excused on all DAYS; TODAY is 0. */
    private static SchoolBoard excused() {
        SchoolBoard x = new SchoolBoard();
        act(x, 0, "clause 1:excuse 3 as 1 if standard=5;clause 2:excuse 3 as 2 if standard=4;clause 3:rise 0;");
        x.school(0, 0, 0);
        x.school(1, 1, 0);
        for (int child = 0; child < 2; child++) {
            x.child(-700, 0, 2 - 2 * child);
            x.enter(child, 1, 0);
            x.grantSpan(child, 0, 3, 0, 799);
        }
        return x;
    }

    private static void quartersToCome() {
        int[][] due = {{0, 0, 2, 1, 0, 0, 0, 0}, {0, 0, 0, 0, 2, 1, 0, 0}};
        SchoolBoard days = excused();
        SchoolBoard years = excused();
        for (int year = 0; year < 8; year++) {
            for (int child = 0; child < 2; child++) {
                String whose = "CHILD " + child + " in YEAR " + year + ", TODAY is 0";
                c.of("16 QUARTERS' IF: standard of the DAY's YEAR, though it's to come");
                c.due(whose, due[child][year], days.quarters(child, year * 100 + 50, 1, 0, 0));
                c.of("17 QUARTERS of a YEAR to come: by the STANDARD of that YEAR");
                c.due(whose, due[child][year] * 200, years.yearly(child, year, 0, 0));
            }
        }
    }

    /** QUARTERS of YEAR 0 and of YEAR 1, by the CODE of 0, of a CHILD that is present on all DAYS, by one IF. */
    private static void yearBy(String condition, int ofYear0, int ofYear1) {
        SchoolBoard x = new SchoolBoard();
        act(x, 0, "clause 1:count present as 1 if " + condition + ";clause 2:half;clause 3:rise 0;");
        x.school(0, 0, 0);
        x.child(-700, 0, 6);
        x.child(-650, 0, 2);
        x.day(199);
        x.enter(1, 0, 0);
        x.mark(1, 0, 0, 199, 1, 1);
        x.grantSpan(1, 0, 3, 50, 104);
        x.grantSpan(1, 1, 0, 140, 159);
        x.grantSpan(1, 2, 0, 190, 250);
        c.due(condition + ", YEAR 0", ofYear0, x.yearly(1, 0, 0, 199));
        c.due(condition + ", YEAR 1", ofYear1, x.yearly(1, 1, 0, 199));
    }

    private static void yearByDays() {
        c.of("17 QUARTERS of a YEAR: each HALF by what an IF asks on its own DAY");
        yearBy("age=6", 100, 0);
        yearBy("age=7", 100, 100);
        yearBy("age=8", 0, 100);
        yearBy("standard=2", 200, 0);
        yearBy("standard=3", 0, 200);
        yearBy("day<30", 60, 60);
        yearBy("day=99", 2, 2);
        yearBy("year=1", 0, 200);
        yearBy("half=1", 100, 100);
        yearBy("excused=1", 100, 10);
        yearBy("timer=1", 0, 40);
        yearBy("poor=1", 0, 20);
    }

    private static void standardByOwnCodes() {
        c.of("18 STANDARD: PASSES of a YEAR by that YEAR's CODE too");
        int[][] edges = {{50, 90, 3}, {90, 50, 2}};
        for (int[] edge : edges) {
            SchoolBoard x = Checks.board(2, 0);
            act(x, 0, "clause 1:pass 4 needs " + edge[0] + ";clause 2:rise 1;");
            act(x, 3, "clause 1:pass 4 needs " + edge[1] + ";");
            x.result(1, 0, 4, 60);
            for (int year = 1; year < 8; year++) {
                c.due("60 of " + edge[0] + ", later " + edge[1] + ", in YEAR " + year, edge[2], x.standard(1, year, 0));
            }
        }
    }

    private static void passesOfTheYear() {
        c.of("19 PASSES: STANDARD, age and year of the YEAR asked for, whatever TODAY's and the CODE's are");
        SchoolBoard x = Checks.board(2, 0);
        act(x, 0, "clause 1:pass 0 needs 0 if standard=3;clause 2:pass 1 needs 0 if year=1;clause 3:pass 2 needs 0 if age=8;"
                + "clause 4:rise 0;");
        x.day(250);
        for (int year = 0; year < 3; year++) {
            for (int subject = 0; subject < 3; subject++) {
                x.result(1, year, subject, 10);
            }
        }
        for (int code = 0; code < 8; code++) {
            c.due("YEAR 0 by the CODE of " + code, 0, x.passes(1, 0, code, 250));
            c.due("YEAR 1 by the CODE of " + code, 7, x.passes(1, 1, code, 250));
            c.due("YEAR 2 by the CODE of " + code, 0, x.passes(1, 2, code, 250));
        }
    }

    /**
     * CHILDREN 1 to 3 (of STANDARD 2, 3 in YEAR 1) on SCHOOL 1, present in YEAR 1, 60 marks each in SUBJECT 2 then; an
     * ACT from YEAR 0 and one from YEAR 3 on.
     */
    private static SchoolBoard twoCodes(String own, String told) {
        SchoolBoard x = Checks.board(4, 2);
        act(x, 0, "clause 1:count present as 2;clause 2:pass 2 needs 50;clause 3:rise 0;" + own);
        act(x, 3, told);
        x.day(199);
        x.enter(0, 0, 0);
        for (int child = 1; child < 4; child++) {
            x.enter(child, 1, 0);
            x.mark(child, 100, 0, 199, 1, 1);
            x.result(child, 1, 2, 60);
        }
        return x;
    }

    private static void byCode(int what, String own, int due, String told, int dueTold) {
        SchoolBoard x = twoCodes(own, told);
        c.due("[" + own + "], what " + what + " by the CODE of 1", due, x.grant(1, 1, 1, 199, what));
        c.due("and by that of 3 [" + told + "]", dueTold, x.grant(1, 1, 3, 199, what));
    }

    private static void grantByCode() {
        c.of("20 GRANT by the CODE of a YEAR: AVERAGE's \"count\"");
        byCode(0, "", 3, "clause 1:count present as 1;", 1);
        c.of("20 GRANT by the CODE of a YEAR: STAFF");
        byCode(3, "clause 10:staff 4;", 4, "clause 10:staff 7;", 7);
        byCode(4, "clause 10:grant 10 per head;clause 11:staff 9;", 30, "clause 11:staff 2;", 20);
        c.of("20 GRANT by the CODE of a YEAR: who QUALIFIES");
        byCode(4, "clause 10:grant 5 per child;clause 11:attend 400;", 15, "clause 11:attend 401;", 0);
        byCode(4, "clause 10:grant 5 per child;clause 11:attend 300;", 15, "clause 1:count present as 1;", 0);
        c.of("20 GRANT by the CODE of a YEAR: quarters and passes of an IF");
        byCode(4, "clause 10:grant 5 per child if quarters=200;", 0, "clause 1:count present as 1;", 15);
        byCode(4, "clause 10:grant 5 per child if passes=0;", 0, "clause 2:pass 2 needs 61;", 15);
        c.of("20 GRANT by the CODE of a YEAR: PASSES");
        byCode(4, "clause 10:grant 5 per pass 2;", 15, "clause 2:pass 2 needs 61;", 0);
        c.of("20 GRANT by the CODE of a YEAR: its \"grants\" and its \"cap\"");
        byCode(4, "clause 10:grant 5 per child;", 15, "clause 10:grant 6 per child;", 18);
        byCode(4, "clause 10:grant 5 per pass 2;", 15, "clause 10:grant 6 per pass 2;", 18);
        byCode(4, "clause 10:grant 5 per head;", 15, "clause 10:grant 6 per head;", 18);
        byCode(4, "clause 10:grant 5 per child;clause 11:cap 4;", 12, "clause 11:cap 3;", 9);
    }

    private static void grantOfTheYear() {
        c.of("20 GRANT for a YEAR: what an IF asks is that YEAR's, whichever CODE is told");
        byCode(4, "clause 10:grant 5 per head if year=1;", 15, "omit 60;", 15);
        byCode(4, "clause 10:grant 5 per child if year=1;", 15, "omit 60;", 15);
        byCode(4, "clause 10:grant 5 per child if standard=3;", 15, "omit 60;", 15);
        byCode(4, "clause 10:grant 5 per child if age=8;", 15, "omit 60;", 15);
        byCode(4, "clause 10:grant 5 per child;clause 11:attend 999 if year=3 or standard=5;", 15, "omit 60;", 15);
        c.of("20 GRANT for a YEAR: RESULTS of that YEAR, whichever CODE is told");
        byCode(4, "clause 10:grant 5 per pass 2;", 15, "omit 60;", 15);
        byCode(4, "clause 4:pass 2 needs 50 if year=1 and standard=3 and age=8;clause 2:pass 2 needs 99 if year=3;"
                + "clause 10:grant 5 per pass 2;", 15, "omit 60;", 15);
        c.of("20 GRANT for a YEAR: STANDARDS by each YEAR's own CODE, whichever is told");
        byCode(4, "clause 10:grant 5 per child if standard=3;", 15, "omit 3;", 15);
    }

    /** CHILD 0 on SCHOOL 0, three that differ in all that an IF may ask for on SCHOOL 1; TODAY is 199. */
    private static SchoolBoard different(String act, String more) {
        SchoolBoard x = new SchoolBoard();
        act(x, 0, "clause 1:count present as 2;clause 2:pass 0 needs 40;clause 3:pass 1 needs 40;" + act);
        act(x, 0, more);
        x.school(0, 0, 0);
        x.school(0, 0, 0);
        int[] presentTo = {0, 109, 119, 139};
        for (int child = 0; child < 4; child++) {
            x.child(BORN[child], 0, STANDARDS[child]);
        }
        x.day(199);
        for (int child = 0; child < 4; child++) {
            x.enter(child, child == 0 ? 0 : 1, 0);
            x.mark(child, child == 0 ? 0 : 100, 0, presentTo[child], 1, 1);
        }
        return x;
    }

    private static void grantOfEachChild() {
        c.of("20 LINES: each CHILD's own age, standard, quarters, passes");
        SchoolBoard x = different("clause 10:grant 1 per child if standard=1;clause 11:grant 2 per child if standard=2;"
                + "clause 12:grant 4 per child if standard=4;clause 13:grant 8 per child if quarters=40;"
                + "clause 14:grant 16 per child if quarters=80;clause 15:grant 32 per child if quarters=160;"
                + "clause 16:grant 64 per child if age=8;clause 17:grant 128 per child if age=9;",
                "clause 18:grant 256 per child if age=10;clause 19:grant 512 per child if passes=1;"
                + "clause 20:grant 1024 per child if passes=2;clause 21:grant 2048 per child if passes=0;"
                + "clause 22:grant 4096 per pass 0 if standard=1;");
        x.result(0, 1, 0, 40);
        x.result(0, 1, 1, 40);
        x.result(1, 1, 0, 40);
        x.result(2, 1, 0, 40);
        x.result(2, 1, 1, 40);
        int[][] due = {{10, 13, 16, 19, 22}, {11, 14, 17, 20}, {12, 15, 18, 21}};
        int k = 0;
        for (int child = 1; child < 4; child++) {
            for (int clause : due[child - 1]) {
                c.due("CHILD of LINE " + k, child, x.line(1, 1, 1, 199, k, 0));
                c.due("clause of LINE " + k, clause, x.line(1, 1, 1, 199, k, 1));
                k++;
            }
        }
        c.due("LINES", k, x.grant(1, 1, 1, 199, 5));
        c.due("GRANT", 8191, x.grant(1, 1, 1, 199, 4));
        c.of("20 CHILD that QUALIFIES: each by its own QUARTERS, and the \"attend\" of its own IF");
        act(x, 1, "clause 9:attend 100;");
        c.due("100 of 40, 80, 160", 4 + 32 + 256 + 2048, x.grant(1, 1, 1, 199, 4));
        act(x, 1, "clause 9:attend 100 if standard=2;");
        c.due("100 for STANDARD 2 alone", 8191 - 2 - 16 - 128 - 1024, x.grant(1, 1, 1, 199, 4));
        act(x, 1, "clause 9:attend 100 if passes=1;");
        c.due("100 with one PASS alone", 8191 - 1 - 8 - 64 - 512 - 4096, x.grant(1, 1, 1, 199, 4));
        act(x, 1, "clause 9:attend 200 if age=10;");
        c.due("200 of AGE 10 alone", 8191 - 4 - 32 - 256 - 2048, x.grant(1, 1, 1, 199, 4));
    }

    private static void averageToCome() {
        c.of("20 AVERAGE: QUARTERS of all HALVES, those of EXCUSES on DAYS behind the one by which it's KNOWN too");
        SchoolBoard x = Checks.board(2, 2);
        act(x, 0, "clause 1:excuse 4 as 2;");
        x.day(110);
        x.enter(1, 1, 0);
        x.grantSpan(1, 0, 4, 100, 199);
        c.due("400 by 400, as KNOWN by 110", 1, x.grant(1, 1, 1, 110, 0));
        c.due("as KNOWN by 109", 0, x.grant(1, 1, 1, 109, 0));
        c.due("QUARTERS as KNOWN by 110", 400, x.yearly(1, 1, 1, 110));
    }

    private static int[] grantOf(SchoolBoard x, int which) {
        int school = which % 2;
        int year = which / 2 % 2;
        int code = which / 4 % 2 == 0 ? 1 : 3;
        int known = new int[] {150, 199, 799}[which / 8];
        return new int[] {x.grant(school, year, code, known, 0), x.grant(school, year, code, known, 4),
            x.line(school, year, code, known, 0, 2)};
    }

    private static SchoolBoard changing() {
        SchoolBoard x = twoCodes("clause 10:grant 5 per head;clause 11:grant 7 per child;", "clause 10:grant 6 per head;");
        x.mark(0, 0, 0, 199, 1, 1);
        x.day(799);
        x.enter(2, 0, 0);
        return x;
    }

    private static void grantAskedFor() {
        c.of("20 grant: the one asked for, whichever was asked ahead of it");
        int[][] due = new int[24][];
        for (int which = 0; which < 24; which++) {
            due[which] = grantOf(changing(), which);
        }
        int[][] some = {{8 + 2, 1, 12}, {16 + 2 + 1, 2, 24}, {16 + 4 + 2 + 1, 2, 26}, {16 + 1, 0, 14}, {2 + 1, 0, 0}};
        for (int[] one : some) {
            c.due("AVERAGE of number " + one[0], one[1], due[one[0]][0]);
            c.due("GRANT of number " + one[0], one[2], due[one[0]][1]);
        }
        for (int ahead = 0; ahead < 24; ahead++) {
            SchoolBoard x = changing();
            for (int which = 0; which < 24; which++) {
                grantOf(x, ahead);
                int[] got = grantOf(x, which);
                for (int i = 0; i < 3; i++) {
                    c.due("number " + which + " behind " + ahead + ", answer " + i, due[which][i], got[i]);
                }
            }
        }
    }

    private static void enteringOfEachChild() {
        c.of("34 ENTERING: each CHILD's own age, standard, quarters, ESTIMATES, and LET OFF");
        SchoolBoard x = different("clause 10:grant 1 per pass 0 if standard=1;clause 11:grant 2 per pass 0 if standard=2;"
                + "clause 12:grant 4 per pass 0 if standard=4;clause 13:grant 8 per pass 0 if age=8;"
                + "clause 14:grant 16 per pass 0 if age=9;clause 15:grant 32 per pass 0 if age=10;"
                + "clause 16:grant 64 per pass 0 if mark=51;clause 17:grant 128 per pass 0 if mark=52;"
                + "clause 18:grant 256 per pass 0 if mark=53;",
                "clause 19:grant 512 per pass 0 if quarters=40;clause 20:grant 1024 per pass 0 if quarters=80;"
                + "clause 21:grant 2048 per pass 0 if quarters=160;clause 22:grant 4096 per pass 0 if poor=1;"
                + "clause 3:pass 1 needs 40 if standard=2;clause 23:grant 8192 per pass 1;");
        for (int child = 0; child < 4; child++) {
            x.estimate(child, 0, 50 + child);
            x.estimate(child, 1, 90 - child);
        }
        x.grantSpan(3, 2, 0, 199, 199);
        int[] pence = {0, 8192, 8192 + 6436, 8192 + 6436 + 1170, 8192 + 6436 + 1170 + 585};
        for (int hours = 0; hours < 5; hours++) {
            c.due("pence of " + hours + " hours", pence[hours], x.entering(1, hours, 0));
        }
        int[][] sets = {{0, 0, 3, 1}, {0, 1, 3, 1}};
        for (int hours = 3; hours < 5; hours++) {
            c.due("hours of " + hours, hours, x.entering(1, hours, 1));
            c.due("UNTAUGHT by " + hours, 4 - hours, x.entering(1, hours, 2));
            for (int child = 0; child < 4; child++) {
                c.due(hours + " hours, the set of CHILD " + child, sets[hours - 3][child], x.entering(1, hours, 10 + child));
            }
        }
    }

    private static void enteringFullHours() {
        c.of("34 ENTERING: up to 200 hours over 40 CHILDREN");
        int[][] edges = {{5, 40, 200, 0}, {6, 33, 198, 7}, {66, 3, 198, 37}, {67, 2, 134, 38}, {100, 2, 200, 38}, {101, 1, 101, 39}};
        for (int[] edge : edges) {
            SchoolBoard x = new SchoolBoard();
            act(x, 0, "clause 1:pass 3 needs 1;clause 2:grant 9 per pass 3;clause 3:teach 3 is " + edge[0] + ";");
            x.school(0, 0, 0);
            for (int child = 0; child < 40; child++) {
                x.child(-700, 0, 2);
                x.enter(child, 0, 0);
                x.estimate(child, 3, 1);
            }
            String each = edge[0] + " hours each: ";
            c.due(each + "pence", 9 * edge[1], x.entering(0, 200, 0));
            c.due(each + "hours", edge[2], x.entering(0, 200, 1));
            c.due(each + "UNTAUGHT", edge[3], x.entering(0, 200, 2));
            for (int child = 0; child < 40; child++) {
                c.due(each + "the set of CHILD " + child, child < edge[3] ? 0 : 8, x.entering(0, 200, 10 + child));
            }
        }
    }

    private static void enteringAskedFor() {
        c.of("34 entering: the one asked for, whichever was asked ahead of it");
        SchoolBoard x = different("clause 10:grant 5 per pass 0;clause 11:grant 7 per pass 1;", "omit 60;");
        for (int child = 0; child < 4; child++) {
            x.estimate(child, 0, 50);
            x.estimate(child, 1, child == 2 ? 39 : 50);
        }
        int[][] due = {{0, 7, 12, 12, 12, 12, 12}, {0, 7, 14, 19, 24, 29, 29}};
        for (int ahead = 0; ahead < 14; ahead++) {
            for (int which = 0; which < 14; which++) {
                x.entering(ahead % 2, ahead / 2, 0);
                c.due("SCHOOL " + which % 2 + ", " + which / 2 + " hours, behind " + ahead, due[which % 2][which / 2],
                        x.entering(which % 2, which / 2, 0));
            }
        }
    }

    /** WORTH of STREET 3 on DAY 104: CHILD 1 on SCHOOL 1, present with 4 QUARTERS a DAY where an IF holds. */
    private static int worth(String condition) {
        SchoolBoard x = new SchoolBoard();
        act(x, 0, "clause 1:count present as 2 if " + condition + ";clause 2:rise 0;clause 3:half;");
        x.school(0, 0, 0);
        x.school(0, 0, 0);
        x.child(-700, 0, 5);
        x.child(-603, 3, 2);
        x.day(104);
        x.enter(1, 1, 0);
        x.mark(1, 0, 0, 104, 1, 1);
        x.grantSpan(1, 0, 0, 103, 110);
        x.grantSpan(1, 1, 0, 102, 110);
        x.grantSpan(1, 2, 0, 101, 110);
        c.due("a STREET of one ON none", 0, x.officer(0, 10));
        c.due("the other CHILD's STANDARD, asked for ahead of it", 6, x.standard(0, 1, 104));
        return x.officer(0, 13);
    }

    private static void worthByDays() {
        c.of("35 WORTH: each of the 10 DAYS by what an IF asks on it, over a YEAR's edge too");
        c.due("standard 2 on 95 to 99", 20, worth("standard=2"));
        c.due("standard 3 on 100 to 104", 20, worth("standard=3"));
        c.due("age 6 on 95, 96", 32, worth("age=6"));
        c.due("age 7 on 97 to 104", 8, worth("age=7"));
        c.due("day on 98, 99", 32, worth("day>97"));
        c.due("day on 100 to 104", 20, worth("day<5"));
        c.due("year 0 on 95 to 99", 20, worth("year=0"));
        c.due("half", 20, worth("half=0"));
        c.due("excused on 103, 104", 32, worth("excused=1"));
        c.due("timer on 102 to 104", 28, worth("timer=1"));
        c.due("poor on 101 to 104", 24, worth("poor=1"));
    }

    private static void sitesOfSchools() {
        c.of("37 SITES: a walk from any SCHOOL, each at its own place");
        int[][] places = {{0, 0}, {60, 60}, {30, 0}, {0, 30}, {10, 50}, {50, 10}};
        for (int count = 1; count <= 6; count++) {
            SchoolBoard x = new SchoolBoard();
            x.house(5);
            x.house(5);
            for (int i = 0; i < count; i++) {
                x.school(places[i][0], places[i][1], 0);
            }
            x.child(0, 7, 0);
            for (int at = 0; at < 6; at++) {
                x.street(7, places[at][0], places[at][1]);
                c.due(count + " SCHOOLS, a STREET where the " + at + "th is", at < count ? 0 : -1, x.sites(0, 0));
            }
        }
    }

    private static void teachersOwnYears() {
        SchoolBoard x = Checks.board(0, 2);
        act(x, 0, "clause 1:pay 1 is 10;clause 2:pay 2 is 20;clause 3:staff 5;");
        int[] first = {0, 2, 3, 7};
        for (int teacher = 0; teacher < 4; teacher++) {
            x.day(Math.max(1, first[teacher] * 100));
            x.teacher(teacher % 2);
        }
        for (int teacher = 0; teacher < 4; teacher++) {
            for (int year = 0; year < 8; year++) {
                c.of("26 proof: for a YEAR from each PUPIL TEACHER's own first on");
                c.due("of " + teacher + " for YEAR " + year, year >= first[teacher] ? 1 : 0, Checks.bit(x.proof(teacher, year, 9)));
            }
        }
        for (int teacher = 0; teacher < 4; teacher++) {
            for (int year = 0; year < 8; year++) {
                int step = Math.min(5, year - first[teacher] + 1);
                c.of("27 teacherOf: from each PUPIL TEACHER's own first YEAR on");
                c.due("STEP of " + teacher + " in YEAR " + year, step < 1 ? -1 : step, x.teacherOf(teacher, year, 0));
                c.due("PAY of " + teacher + " in YEAR " + year, step < 1 ? -1 : step < 3 ? 10 * step : 0, x.teacherOf(teacher, year, 1));
            }
        }
        int[][] due = {{10, 10, 10, 15, 15, 15, 15, 15}, {5, 5, 10, 10, 10, 10, 10, 15}};
        c.of("20 STAFF: the PUPIL TEACHERS there in the GRANT's YEAR");
        for (int school = 0; school < 2; school++) {
            for (int year = 0; year < 8; year++) {
                c.due("SCHOOL " + school + " in YEAR " + year, due[school][year], x.grant(school, year, 0, 799, 3));
            }
        }
    }

    private static void lastDayAnew() {
        c.of("20 SCHOOL's DAYS that aren't shut: of the YEAR asked for, whichever was asked ahead of it");
        SchoolBoard x = Checks.board(1, 2);
        act(x, 0, "clause 1:staff 4;");
        act(x, 1, "clause 1:staff 7;");
        x.shut(0, 99, 99);
        x.shut(1, 100, 109);
        int[][] due = {{99, 100, 100}, {100, 90, 100}};
        for (int turn = 0; turn < 2; turn++) {
            for (int school = 0; school < 2; school++) {
                for (int year = 2; year >= 0; year--) {
                    c.due("SCHOOL " + school + " in YEAR " + year, due[school][year], x.grant(school, year, 0, 0, 1));
                    c.due("by the CODE of 1", 7, x.grant(school, year, 1, 1, 3));
                    c.due("by the CODE of 0", 4, x.grant(school, year, 0, 1, 3));
                    c.due("and by that of 1 again", 7, x.grant(school, year, 1, 1, 3));
                }
            }
        }
        c.of("17 QUARTERS' IF: timer, poor, excused of the CHILD asked for, whoever was asked ahead of it");
        String[] names = {"excused", "timer", "poor"};
        for (int what = 0; what < 3; what++) {
            SchoolBoard y = Checks.board(2, 1);
            act(y, 0, "clause 1:count present as 1 if " + names[what] + "=1;clause 2:half;");
            y.day(99);
            for (int child = 0; child < 2; child++) {
                y.enter(child, 0, 0);
                y.mark(child, 0, 0, 99, 1, 1);
            }
            y.grantSpan(0, what, 0, 98, 99);
            y.grantSpan(1, what, 0, 0, 0);
            for (int turn = 0; turn < 2; turn++) {
                c.due(names[what] + " on 98, 99", 4, y.yearly(0, 0, 0, 99));
                c.due(names[what] + " on 0", 2, y.yearly(1, 0, 0, 99));
                c.due(names[what] + ", CHILD 0 on 99", 1, y.quarters(0, 99, 0, 0, 99));
                c.due(names[what] + ", CHILD 1 on 99", 0, y.quarters(1, 99, 0, 0, 99));
            }
        }
    }

    private static void certificateOfEachChild() {
        c.of("10 grantSpan: a CERTIFICATE by each CHILD's own STANDARD and AGE");
        SchoolBoard x = new SchoolBoard();
        act(x, 0, "clause 1:half if standard=4 and age=9;clause 2:rise 0 if year=0 and age=9;");
        x.child(-700, 0, 3);
        x.child(-900, 0, 4);
        x.child(-850, 0, 3);
        c.due("CHILD 0, of STANDARD 3", -2, x.grantSpan(0, 1, 0, 20, 30));
        c.due("CHILD 1, of STANDARD 4 and AGE 9", 0, x.grantSpan(1, 1, 0, 20, 30));
        c.due("CHILD 1 on 100, of AGE 10", -2, x.grantSpan(1, 1, 0, 100, 130));
        c.due("CHILD 2 on 99, of STANDARD 3", -2, x.grantSpan(2, 1, 0, 99, 130));
        c.due("CHILD 2 on 100, of STANDARD 4 and AGE 9", 1, x.grantSpan(2, 1, 0, 100, 130));
        c.due("CHILD 0 on 200, still of STANDARD 3", -2, x.grantSpan(0, 1, 0, 200, 230));
    }

    private static void excusedToCome() {
        c.of("16 QUARTERS of a HALF on DAYS behind TODAY and behind the one by which it's KNOWN");
        SchoolBoard x = Checks.board(2, 2);
        act(x, 0, "clause 1:excuse 3 as 2;");
        x.day(20);
        x.enter(1, 1, 10);
        x.day(30);
        x.grantSpan(1, 0, 3, 15, 60);
        x.shut(1, 50, 51);
        int[][] due = {{14, 0}, {15, 2}, {30, 2}, {31, 2}, {40, 2}, {49, 2}, {50, 0}, {51, 0}, {52, 2}, {60, 2}, {61, 0}};
        for (int[] one : due) {
            c.due("DAY " + one[0] + " as KNOWN by 30", one[1], x.quarters(1, one[0], 0, 0, 30));
            c.due("DAY " + one[0] + " as KNOWN by 29", 0, x.quarters(1, one[0], 0, 0, 29));
            c.due("DAY " + one[0] + " as KNOWN by 799", one[1], x.quarters(1, one[0], 1, 0, 799));
        }
    }

    private static void standardFromNothing() {
        c.of("19 PASSES of a CHILD of STANDARD 0");
        SchoolBoard x = new SchoolBoard();
        act(x, 0, "clause 1:pass 0 needs 0;clause 2:rise 1;");
        x.child(-700, 0, 3);
        x.child(-700, 0, 0);
        x.result(1, 0, 0, 0);
        c.due("of 0 marks", 1, x.passes(1, 0, 0, 0));
        c.due("without a RESULT", 0, x.passes(0, 0, 0, 0));
        c.of("18 STANDARD: 0 rises as any");
        c.due("YEAR 0", 0, x.standard(1, 0, 0));
        c.due("YEAR 1", 1, x.standard(1, 1, 0));
        c.due("the other CHILD", 3, x.standard(0, 1, 0));
    }

    private static void passesOfEachChild() {
        c.of("19 PASSES' IF: each CHILD's own age, standard, mark, timer, poor");
        SchoolBoard x = new SchoolBoard();
        act(x, 0, "clause 1:pass 0 needs 0 if standard=1;clause 2:pass 1 needs 0 if age=8;clause 3:pass 2 needs 0 if mark=31;"
                + "clause 4:pass 3 needs 0 if timer=1;clause 5:pass 4 needs 0 if poor=1;clause 6:half;");
        int[] due = {2, 1 + 8, 16, 4};
        for (int child = 0; child < 4; child++) {
            x.child(new int[] {-800, -700, -600, -500}[child], 0, new int[] {0, 1, 2, 4}[child]);
            for (int subject = 0; subject < 5; subject++) {
                x.result(child, 0, subject, child == 3 ? 31 : 30);
            }
        }
        x.grantSpan(1, 1, 0, 99, 99);
        x.grantSpan(2, 2, 0, 99, 99);
        for (int turn = 0; turn < 2; turn++) {
            for (int child = 0; child < 4; child++) {
                c.due("CHILD " + child, due[child], x.passes(child, 0, 0, 0));
            }
        }
    }

    private static void passesByEachCode() {
        c.of("18 STANDARD: each YEAR by its own CODE, its PASSES and its \"rise\"");
        SchoolBoard x = Checks.board(2, 0);
        act(x, 0, "clause 1:pass 4 needs 50;clause 2:rise 1;");
        act(x, 2, "clause 1:pass 4 needs 61;");
        act(x, 3, "clause 1:pass 4 needs 60;");
        act(x, 5, "clause 2:rise 2;");
        x.day(799);
        for (int year = 0; year < 8; year++) {
            x.result(1, year, 4, 60);
        }
        int[] due = {2, 3, 4, 4, 5, 6, 6, 6};
        for (int year = 0; year < 8; year++) {
            c.due("STANDARD in YEAR " + year, due[year], x.standard(1, year, 799));
        }
        SchoolBoard y = Checks.board(2, 0);
        act(y, 0, "clause 1:pass 4 needs 61;clause 2:rise 1;");
        act(y, 1, "clause 1:pass 4 needs 60;");
        act(y, 2, "clause 1:pass 4 needs 61;");
        y.day(799);
        for (int year = 0; year < 8; year++) {
            y.result(1, year, 4, 60);
            y.result(0, year, 4, 61);
        }
        int[] few = {2, 2, 3, 3, 3, 3, 3, 3};
        for (int year = 0; year < 8; year++) {
            c.due("PASSES in YEAR 1 alone, in YEAR " + year, few[year], y.standard(1, year, 799));
            c.due("PASSES in all, in YEAR " + year, Math.min(6, 2 + year), y.standard(0, year, 799));
        }
    }

    private static void grantOfLaterYear() {
        c.of("20 GRANT's IF and QUARTERS' IF: STANDARDS of the GRANT's YEAR, of which the SCHOOL's number isn't one");
        SchoolBoard x = new SchoolBoard();
        act(x, 0, "clause 1:count present as 2 if standard<5;clause 2:rise 0;clause 3:grant 1 per child if standard=2;"
                + "clause 4:grant 16 per child if standard=3;clause 5:grant 256 per child if standard=4;"
                + "clause 6:grant 4096 per child if standard=5;");
        x.school(0, 0, 0);
        x.school(0, 0, 0);
        for (int child = 0; child < 3; child++) {
            x.child(-700, 0, child);
            x.enter(child, 1, 0);
        }
        x.day(399);
        for (int child = 0; child < 3; child++) {
            x.mark(child, 0, 0, 399, 1, 1);
        }
        int[] pence = {1, 1 + 16, 1 + 16 + 256, 16 + 256 + 4096};
        int[] average = {3, 3, 3, 2};
        for (int year = 3; year >= 0; year--) {
            c.due("GRANT for YEAR " + year, pence[year], x.grant(1, year, 0, 399, 4));
            c.due("AVERAGE in YEAR " + year, average[year], x.grant(1, year, 0, 399, 0));
        }
    }

    private static void lineByCode() {
        c.of("21 line: of the GRANT by the CODE that is told, whichever SCHOOL, YEAR and k are");
        SchoolBoard x = Checks.board(3, 3);
        for (int code = 0; code < 8; code++) {
            act(x, code, "clause 3:grant " + (code + 1) + " per child;clause " + (code + 10) + ":grant 100 per child;");
        }
        x.day(250);
        x.enter(2, 2, 0);
        x.enter(1, 2, 0);
        for (int year = 0; year < 3; year++) {
            for (int code = 0; code < 8; code++) {
                int lines = 2 + code;
                String what = "YEAR " + year + " by the CODE of " + code;
                c.due(what + ", first LINE", code + 1, x.line(2, year, code, 250, 0, 2));
                c.due(what + ", its CHILD", 1, x.line(2, year, code, 250, 0, 0));
                c.due(what + ", the first CHILD's last LINE", 10 + code, x.line(2, year, code, 250, lines - 1, 1));
                c.due(what + ", the second's first LINE", 2, x.line(2, year, code, 250, lines, 0));
                c.due(what + ", its pence", code + 1, x.line(2, year, code, 250, lines, 2));
                c.due(what + ", behind the last LINE", -1000000, x.line(2, year, code, 250, 2 * lines, 2));
            }
        }
    }

    private static void lineAnew() {
        c.of("21 line: anew when something was told since, whichever k was asked for");
        for (int k = 0; k < 12; k++) {
            SchoolBoard x = Checks.board(12, 1);
            act(x, 0, "clause 1:grant 7 per child;");
            for (int child = 0; child < 12; child++) {
                x.enter(child, 0, 0);
                c.due("LINES of " + (child + 1) + ", k " + k, k <= child ? 7 : -1000000, x.line(0, 0, 0, 0, k, 2));
            }
            for (int child = 11; child >= 0; child--) {
                x.undo(child);
                c.due("LINES of " + child + " again, k " + k, k < child ? 7 : -1000000, x.line(0, 0, 0, 0, k, 2));
            }
        }
    }

    private static void feesOfEachYear() {
        c.of("22 FEES' IF: age, standard of each WEEK's YEAR, of the CHILD asked for");
        SchoolBoard x = new SchoolBoard();
        act(x, 0, "clause 1:rise 0;clause 2:fee 1 if standard=3;clause 3:fee 20 if standard=4;clause 4:fee 400 if standard=5;"
                + "clause 5:fee 7000 if age>30;");
        x.school(0, 0, 0);
        x.child(-700, 0, 6);
        x.child(-700, 0, 2);
        x.child(-700, 0, 3);
        for (int child = 0; child < 3; child++) {
            x.enter(child, 0, 0);
        }
        int[] second = {0, 1, 20, 400, 0, 0, 0, 0};
        int[] third = {1, 20, 400, 0, 0, 0, 0, 0};
        int dueSecond = 0;
        int dueThird = 0;
        for (int year = 0; year < 8; year++) {
            dueSecond += 20 * second[year];
            dueThird += 20 * third[year];
            c.due("another CHILD's STANDARD", 6, x.standard(0, 7, 0));
            c.due("CHILD 1 up to YEAR " + year + "'s end", dueSecond, x.fees(1, year * 100 + 99, 0));
            c.due("another CHILD's FEES", 0, x.fees(0, 799, 0));
            c.due("CHILD 2 up to YEAR " + year + "'s end", dueThird, x.fees(2, year * 100 + 99, 0));
        }
    }

    private static void quartersAsByNow() {
        c.of("34 ENTERING: quarters as by now, of TODAY's YEAR by TODAY's YEAR's CODE, PASSES by it too");
        SchoolBoard x = Checks.board(3, 2);
        act(x, 0, "clause 1:count present as 2;clause 2:pass 0 needs 0;clause 3:grant 5 per pass 0 if quarters=12;"
                + "clause 4:grant 70 per pass 0 if quarters=6;clause 5:grant 900 per pass 0 if quarters=0;");
        act(x, 3, "clause 1:count present as 1;clause 2:pass 0 needs 50;");
        x.enter(2, 1, 0);
        x.estimate(2, 0, 50);
        x.day(202);
        x.mark(2, 200, 0, 202, 1, 1);
        c.due("12 in YEAR 2", 5, x.entering(1, 9, 0));
        x.day(302);
        c.due("none yet in YEAR 3", 900, x.entering(1, 9, 0));
        x.mark(2, 300, 0, 302, 1, 1);
        c.due("6 in YEAR 3", 70, x.entering(1, 9, 0));
        x.estimate(2, 0, 49);
        c.due("49 marks of 50", 0, x.entering(1, 9, 0));
    }
}
