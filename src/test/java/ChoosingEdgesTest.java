/** Promises 33 to 46, sentence by sentence: the value at each edge, the one just inside it, the one just outside it. */
public final class ChoosingEdgesTest {
    private static final Checks c = new Checks();
    private static final String TWO = "clause 1:pass 0 needs 0;clause 2:pass 1 needs 0;";

    public static void main(String[] args) {
        estimate();
        enteringAsked();
        enteringWho();
        enteringWhat();
        enteringHours();
        enteringPence();
        enteringIf();
        enteringOmitted();
        enteringLeastRow();
        untaught();
        officerAsked();
        worthOfTenDays();
        worthOfDays();
        officerMinutes();
        officerChooses();
        site();
        sitesAsked();
        sitesWithinWalk();
        fewestSites();
        poll();
        candidate();
        ballot();
        heap();
        elected();
        sure();
        house();
        rateAsked();
        rateLeast();
        rateSmall();
        count();
        c.end();
    }

    /** CHILDREN (born on -700, of STANDARD 2) on SCHOOL 0 of two, by an ACT from YEAR 0 on. */
    private static SchoolBoard board(int children, String act) {
        SchoolBoard x = new SchoolBoard();
        x.school(0, 0, 0);
        x.school(0, 0, 0);
        for (int i = 0; i < children; i++) {
            x.child(-700, i % 10, 2);
            x.enter(i, 0, 0);
        }
        if (Checks.act(x, 0, act) != 0) {
            c.due("a test's own act, its fault " + x.fault(), 0, -1);
        }
        return x;
    }

    private static void estimates(SchoolBoard x, int child, int... marks) {
        for (int subject = 0; subject < marks.length; subject++) {
            x.estimate(child, subject, marks[subject]);
        }
    }

    private static void estimate() {
        c.of("33 estimate: 0 to 100; NONE: none");
        String act = "clause 1:pass 0 needs 0;clause 2:grant 1 per pass 0;clause 3:grant 2 per pass 0 if mark=100;";
        SchoolBoard x = board(2, act);
        c.due("none at first", 0, x.entering(0, 9, 0));
        c.yes("mark 0", x.estimate(0, 0, 0));
        c.due("an ESTIMATE of 0 is one", 1, x.entering(0, 9, 0));
        c.yes("mark 100", x.estimate(0, 0, 100));
        c.due("in place of what was", 3, x.entering(0, 9, 0));
        c.yes("NONE", x.estimate(0, 0, -1));
        c.due("none again", 0, x.entering(0, 9, 0));
        c.yes("NONE where there's none", x.estimate(0, 0, -1));
        c.refused("mark -2", 0, State::board, y -> Checks.bit(y.estimate(0, 0, -2)));
        c.refused("mark 101", 0, State::board, y -> Checks.bit(y.estimate(0, 0, 101)));
        c.of("33 estimate: in a SUBJECT 0 to 5");
        c.yes("subject 0", x.estimate(0, 0, 5));
        c.yes("subject 5", x.estimate(0, 5, 5));
        c.refused("subject -1", 0, State::board, y -> Checks.bit(y.estimate(1, -1, 0)));
        c.refused("subject 6", 0, State::board, y -> Checks.bit(y.estimate(0, 6, 0)));
        c.of("33 estimate: of a CHILD that is there");
        c.yes("the last one", x.estimate(1, 0, 5));
        c.refused("child -1", 0, State::board, y -> Checks.bit(y.estimate(-1, 0, 5)));
        c.refused("the CHILD behind the last", 0, State::board, y -> Checks.bit(y.estimate(3, 0, 5)));
        SchoolBoard forty = board(40, act);
        c.yes("the fortieth CHILD", forty.estimate(39, 0, 7));
        c.due("its set", 1, forty.entering(0, 9, 49));
        c.due("the one's ahead of it", 0, forty.entering(0, 9, 48));
    }

    private static void enteringAsked() {
        c.of("34 entering: h 0 to 200, what 0, 1, 2, 10 + c");
        SchoolBoard x = board(2, TWO + "clause 3:grant 5 per pass 0;");
        estimates(x, 0, 9);
        c.due("hours 0", 0, x.entering(0, 0, 0));
        c.due("hours 1", 5, x.entering(0, 1, 0));
        c.due("hours 200", 5, x.entering(0, 200, 0));
        c.due("hours taken", 1, x.entering(0, 200, 1));
        c.due("UNTAUGHT", 1, x.entering(0, 200, 2));
        c.due("CHILD 0", 1, x.entering(0, 200, 10));
        c.due("CHILD 1", 0, x.entering(0, 200, 11));
        c.due("the CHILD behind the last", -1, x.entering(0, 200, 12));
        c.due("what 9", -1, x.entering(0, 200, 9));
        c.due("what 3", -1, x.entering(0, 200, 3));
        c.due("what -1", -1, x.entering(0, 200, -1));
        c.due("hours -1", -1, x.entering(0, -1, 0));
        c.due("hours 201", -1, x.entering(0, 201, 0));
        c.due("school -1", -1, x.entering(-1, 200, 0));
        c.due("the other SCHOOL", 0, x.entering(1, 200, 0));
        c.due("the SCHOOL behind the last", -1, x.entering(2, 200, 0));
    }

    private static void enteringWho() {
        c.of("34 ENTERING: of a SCHOOL's CHILDREN (ON it TODAY)");
        SchoolBoard x = board(3, TWO + "clause 3:grant 5 per pass 0;");
        x.day(20);
        for (int child = 0; child < 3; child++) {
            estimates(x, child, 9);
        }
        x.enter(0, 1, 20);
        x.enter(1, 1, 19);
        x.enter(1, 0, 20);
        x.enter(2, -1, 20);
        c.due("SCHOOL 0: the one that came back TODAY", 5, x.entering(0, 9, 0));
        c.due("its set", 1, x.entering(0, 9, 11));
        c.due("SCHOOL 1: the one that came TODAY", 5, x.entering(1, 9, 0));
        c.due("its set", 1, x.entering(1, 9, 10));
        c.due("0 if it isn't ON it", 0, x.entering(1, 9, 11));
        c.due("0 if it's ON none", 0, x.entering(0, 9, 12));
        x.undo(3);
        c.due("as KNOWN TODAY", 10, x.entering(0, 9, 0));
        x.shut(0, 0, 99);
        c.due("shut all the same", 10, x.entering(0, 9, 0));
    }

    private static void enteringWhat() {
        c.of("34 ENTERING: SUBJECTS in which an ESTIMATE would PASS");
        SchoolBoard x = board(1, "clause 1:pass 0 needs 40;clause 3:grant 5 per pass 0;clause 4:grant 5 per pass 1;");
        int[][] edges = {{39, 0}, {40, 5}, {41, 5}, {100, 5}, {0, 0}, {-1, 0}};
        for (int[] edge : edges) {
            estimates(x, 0, edge[0], 100);
            c.due("an ESTIMATE of " + edge[0] + " of 40", edge[1], x.entering(0, 9, 0));
            c.due("its set", edge[1] / 5, x.entering(0, 9, 10));
        }
        c.of("34 ENTERING: RESULTS aren't ESTIMATES");
        x.result(0, 0, 0, 90);
        c.due("a RESULT alone", 0, x.entering(0, 9, 0));
        c.of("34 ENTERING: by TODAY's YEAR's CODE");
        SchoolBoard y = board(1, "clause 1:pass 0 needs 40;clause 3:grant 5 per pass 0;");
        Checks.act(y, 1, "clause 1:pass 0 needs 50;clause 3:grant 6 per pass 0;clause 4:teach 0 is 3;");
        estimates(y, 0, 50);
        y.day(99);
        c.due("on 99", 5, y.entering(0, 1, 0));
        y.day(100);
        c.due("on 100, the same asked again", 0, y.entering(0, 1, 0));
        c.due("on 100, too few hours", 0, y.entering(0, 2, 0));
        c.due("on 100", 6, y.entering(0, 3, 0));
        y.estimate(0, 0, 49);
        c.due("on 100, an ESTIMATE of 49", 0, y.entering(0, 3, 0));
    }

    private static void enteringHours() {
        c.of("34 ENTERING: hours (the first \"teach\" of each SUBJECT; none: 1) together at most h");
        SchoolBoard x = board(2, TWO + "clause 3:grant 5 per pass 0;clause 4:grant 7 per pass 1;clause 6:teach 0 is 2;"
                + "clause 5:teach 0 is 3;");
        estimates(x, 0, 9, 9);
        estimates(x, 1, 9, 9);
        int[][] edges = {{0, 0, 0}, {1, 7, 1}, {2, 14, 2}, {3, 14, 2}, {4, 14, 2}, {5, 19, 5}, {7, 19, 5}, {8, 24, 8}, {200, 24, 8}};
        for (int[] edge : edges) {
            c.due("pence of " + edge[0], edge[1], x.entering(0, edge[0], 0));
            c.due("hours of " + edge[0], edge[2], x.entering(0, edge[0], 1));
        }
        SchoolBoard later = board(2, TWO + "clause 3:grant 5 per pass 0;clause 4:grant 7 per pass 1;");
        estimates(later, 0, 9);
        estimates(later, 1, -1, 9);
        c.due("1 hour: the later CHILD brings more", 7, later.entering(0, 1, 0));
        rows("1 hour", later, 1, 0, 2);
        rows("2 hours", later, 2, 1, 2);
        SchoolBoard dear = board(1, TWO + "clause 3:grant 5 per pass 0;clause 4:grant 5 per pass 1;clause 5:teach 0 is 9999;");
        estimates(dear, 0, 9, 9);
        rows("SUBJECT 0 takes 9999", dear, 200, 2);
        SchoolBoard left = board(2, TWO + "clause 3:grant 5 per pass 0;clause 5:teach 0 is 0;");
        estimates(left, 0, 9);
        estimates(left, 1, 9);
        c.due("0 hours of 0", 10, left.entering(0, 0, 0));
        left.enter(0, -1, 0);
        c.due("0 hours of 0, one left", 5, left.entering(0, 0, 0));
        left.enter(1, -1, 0);
        c.due("0 hours of 0, both left", 0, left.entering(0, 0, 0));
        int[][] needed = {{0, 0, 5}, {1, 0, 0}, {1, 1, 5}, {200, 199, 0}, {200, 200, 5}, {201, 200, 0}, {9999, 200, 0}};
        for (int[] edge : needed) {
            SchoolBoard y = board(1, TWO + "clause 3:grant 5 per pass 0;clause 5:teach 0 is " + edge[0] + ";");
            estimates(y, 0, 9);
            c.due(edge[0] + " within " + edge[1], edge[2], y.entering(0, edge[1], 0));
            c.due("hours taken", edge[2] == 0 ? 0 : edge[0], y.entering(0, edge[1], 1));
        }
    }

    private static void enteringPence() {
        c.of("34 ENTERING: the most pence by \"grant\" per pass alone");
        SchoolBoard x = board(2, TWO + "clause 3:grant 5 per pass 0;clause 4:grant 6 per pass 0;clause 5:grant 100 per child;"
                + "clause 6:grant 100 per head;clause 7:cap 0;");
        estimates(x, 0, 9, 9);
        c.due("both clauses of the SUBJECT", 11, x.entering(0, 9, 0));
        c.of("34 ENTERING: none asks whether they QUALIFY");
        Checks.act(x, 0, "clause 8:attend 9999;");
        c.due("nobody QUALIFIES", 11, x.entering(0, 9, 0));
        c.of("34 ENTERING: passes: of those entered");
        SchoolBoard y = board(1, TWO + "clause 3:grant 5 per pass 0 if passes=1;clause 4:grant 2 per pass 1;");
        estimates(y, 0, 9, 9);
        y.result(0, 0, 4, 99);
        c.due("one rather than both", 5, y.entering(0, 9, 0));
        c.due("its set", 1, y.entering(0, 9, 10));
        Checks.act(y, 0, "clause 5:grant 4 per pass 1 if passes=2;");
        c.due("both, for the sake of the second", 6, y.entering(0, 9, 0));
        c.due("its set", 3, y.entering(0, 9, 10));
        c.due("too few hours for both", 5, y.entering(0, 1, 0));
        StringBuilder passes = new StringBuilder("clause 7:grant 9 per pass 5 if passes=6;clause 8:grant 2 per pass 0 if passes<6;");
        for (int subject = 0; subject < 6; subject++) {
            passes.append("clause 1").append(subject).append(":pass ").append(subject).append(" needs 9;");
        }
        SchoolBoard six = board(1, passes.toString());
        estimates(six, 0, 9, 9, 9, 9, 9, 9);
        c.due("all six for the sake of one", 9, six.entering(0, 6, 0));
        rows("all six", six, 6, 63);
        rows("within five hours", six, 5, 1);
        c.of("34 ENTERING: quarters as by now");
        SchoolBoard z = board(1, TWO + "clause 3:grant 5 per pass 0 if quarters=9;clause 4:count present as 2;clause 5:count late as 1;");
        estimates(z, 0, 9);
        z.day(140);
        z.mark(0, 99, 0, 99, 1, 1);
        z.mark(0, 100, 0, 101, 1, 1);
        c.due("8", 0, z.entering(0, 9, 0));
        int last = z.mark(0, 140, 1, 140, 1, 2);
        c.due("9", 5, z.entering(0, 9, 0));
        z.undo(last);
        c.due("8 again", 0, z.entering(0, 9, 0));
    }

    /** The pence of a CHILD with an ESTIMATE of 40 in SUBJECT 3 on DAY 150, by an IF of its grant; a span of what. */
    private static int entered(String condition, int born, int what, int from, int to) {
        SchoolBoard x = new SchoolBoard();
        Checks.act(x, 0, "clause 1:pass 3 needs 1;clause 2:half;clause 3:grant 5 per pass 3 if " + condition + ";"
                + "clause 4:rise 0 if year=0;");
        x.school(0, 0, 0);
        x.child(born, 0, 2);
        x.enter(0, 0, 0);
        x.day(150);
        x.estimate(0, 3, 40);
        x.grantSpan(0, what, 0, from, to);
        return x.entering(0, 9, 0);
    }

    private static void enteringIf() {
        c.of("34 ENTERING's IF: as of the YEAR's last DAY");
        c.due("age 8 on 199", 5, entered("age=8", -700, 0, 0, 0));
        c.due("age 9 on 199", 5, entered("age=9", -701, 0, 0, 0));
        c.due("timer up to 198", 0, entered("timer=1", -700, 1, 100, 198));
        c.due("timer up to 199", 5, entered("timer=1", -700, 1, 100, 199));
        c.due("poor from 199 on", 5, entered("poor=1", -700, 2, 199, 199));
        c.due("poor from 200 on", 0, entered("poor=1", -700, 2, 200, 299));
        c.due("standard of the YEAR", 5, entered("standard=3", -700, 0, 0, 0));
        c.due("year", 5, entered("year=1", -700, 0, 0, 0));
        c.due("subject", 5, entered("subject=3", -700, 0, 0, 0));
        c.due("mark: the ESTIMATE", 5, entered("mark=40", -700, 0, 0, 0));
        c.due("passes", 5, entered("passes=1", -700, 0, 0, 0));
        c.of("34 ENTERING's IF: what isn't there is 0");
        c.due("day, half, excused", 5, entered("day=0 and half=0 and excused=0", -700, 0, 0, 799));
    }

    private static void enteringOmitted() {
        c.of("34 ENTERING: \"grants\" and \"teach\" of TODAY's CODE, none that was omitted");
        for (int omitted = 10; omitted < 13; omitted++) {
            SchoolBoard x = board(1, TWO + "clause 10:grant 1 per pass 0;clause 11:grant 2 per pass 0;clause 12:grant 4 per pass 0;");
            estimates(x, 0, 9);
            Checks.act(x, 0, "omit " + omitted + ";");
            c.due("without " + omitted, 7 - (1 << omitted - 10), x.entering(0, 9, 0));
            Checks.act(x, 0, "omit 10;omit 11;omit 12;");
            c.due("without all, behind " + omitted, 0, x.entering(0, 9, 0));
        }
        SchoolBoard y = board(1, TWO + "clause 10:grant 1 per pass 0;clause 11:teach 0 is 3;");
        estimates(y, 0, 9);
        c.due("3 hours, 2 there", 0, y.entering(0, 2, 0));
        Checks.act(y, 0, "omit 11;");
        c.due("1 hour, 2 there", 1, y.entering(0, 2, 0));
    }

    private static void rows(String what, SchoolBoard x, int hours, int... sets) {
        for (int child = 0; child < sets.length; child++) {
            c.due(what + ", CHILD " + child, sets[child], x.entering(0, hours, 10 + child));
        }
    }

    private static void enteringLeastRow() {
        c.of("34 ENTERING: of several the least row of sets (bits of SUBJECTS; the first CHILD's first)");
        SchoolBoard x = board(3, TWO + "clause 3:grant 4 per pass 0;clause 4:grant 4 per pass 1;");
        for (int child = 0; child < 3; child++) {
            estimates(x, child, 9, 9);
        }
        rows("0 of 6", x, 0, 0, 0, 0);
        rows("1 of 6", x, 1, 0, 0, 1);
        rows("2 of 6", x, 2, 0, 0, 3);
        rows("3 of 6", x, 3, 0, 1, 3);
        rows("4 of 6", x, 4, 0, 3, 3);
        rows("5 of 6", x, 5, 1, 3, 3);
        rows("6 of 6", x, 6, 3, 3, 3);
        rows("more than all", x, 200, 3, 3, 3);
        SchoolBoard y = board(2, TWO + "clause 3:grant 4 per pass 0;clause 4:grant 8 per pass 1;clause 5:teach 1 is 2;");
        estimates(y, 0, 9, 9);
        estimates(y, 1, 9, 9);
        rows("8 by the second's SUBJECT 1", y, 2, 0, 2);
        rows("12 by the second's both", y, 3, 0, 3);
        SchoolBoard cannot = board(1, "clause 1:pass 0 needs 50;clause 2:pass 1 needs 0;clause 3:grant 4 per pass 0;clause 4:grant 4 per pass 1;");
        estimates(cannot, 0, 49, 49);
        rows("a lesser set that would not PASS", cannot, 1, 2);
        estimates(cannot, 0, -1, 49);
        rows("a lesser set without an ESTIMATE", cannot, 1, 2);
        c.of("34 ENTERING: what brings nothing isn't entered");
        SchoolBoard z = board(1, TWO + "clause 3:grant 0 per pass 0;clause 4:teach 0 is 0;");
        estimates(z, 0, 9, 9);
        rows("0 pence, 0 hours", z, 200, 0);
        c.due("hours", 0, z.entering(0, 200, 1));
        SchoolBoard six = board(1, "clause 1:pass 5 needs 1;clause 2:grant 9999 per pass 5;clause 3:pass 4 needs 1;clause 4:grant 9999 per pass 4;");
        estimates(six, 0, 9, 9, 9, 9, 9, 9);
        rows("SUBJECTS 4 and 5", six, 2, 48);
        rows("the lesser of them", six, 1, 16);
    }

    private static void untaught() {
        c.of("34 UNTAUGHT: CHILDREN entered for none");
        SchoolBoard x = board(4, TWO + "clause 3:grant 4 per pass 0;clause 4:pass 2 needs 50;");
        estimates(x, 0, 9);
        estimates(x, 1, 9);
        x.estimate(2, 2, 49);
        c.due("within 0", 4, x.entering(0, 0, 2));
        c.due("within 1", 3, x.entering(0, 1, 2));
        c.due("within 2", 2, x.entering(0, 2, 2));
        x.enter(3, -1, 0);
        c.due("one of them ON none", 1, x.entering(0, 2, 2));
        c.due("an empty SCHOOL", 0, x.entering(1, 2, 2));
        c.due("an empty SCHOOL's pence", 0, x.entering(1, 2, 0));
    }

    private static void officerAsked() {
        c.of("35 officer: 0 to 2,000 minutes, what 0, 1, 2, 10 + s");
        SchoolBoard x = board(10, "omit 1;");
        c.due("minutes 0", 0, x.officer(0, 0));
        c.due("minutes 2000", 40, x.officer(2000, 0));
        c.due("minutes -1", -1, x.officer(-1, 0));
        c.due("minutes 2001", -1, x.officer(2001, 0));
        c.due("the set", 1023, x.officer(2000, 1));
        c.due("the minutes", 20, x.officer(2000, 2));
        c.due("STREET 0", 4, x.officer(0, 10));
        c.due("STREET 9", 4, x.officer(0, 19));
        c.due("STREET 10", -1, x.officer(0, 20));
        c.due("what 9", -1, x.officer(0, 9));
        c.due("what 3", -1, x.officer(0, 3));
        c.due("what -1", -1, x.officer(0, -1));
        c.due("WORTH with minutes 2001", -1, x.officer(2001, 10));
        SchoolBoard none = new SchoolBoard();
        for (int what = 0; what < 3; what++) {
            c.due("nobody, what " + what, 0, none.officer(2000, what));
        }
        c.due("a STREET without CHILDREN", 0, none.officer(0, 14));
    }

    private static void worthOfTenDays() {
        c.of("35 WORTH: QUARTERS lacking on each of the 10 DAYS up to TODAY");
        int[][] edges = {{0, 1}, {1, 2}, {8, 9}, {9, 10}, {10, 10}, {99, 10}, {100, 10}, {799, 10}};
        for (int[] edge : edges) {
            SchoolBoard x = board(1, "omit 1;");
            x.day(edge[0]);
            c.due("DAYS up to " + edge[0], 4 * edge[1], x.officer(0, 10));
        }
        for (int day = 29; day <= 40; day++) {
            SchoolBoard x = board(1, "clause 1:count present as 2;clause 2:excuse 0 as 2;");
            x.day(40);
            x.grantSpan(0, 0, 0, day, day);
            c.due("4 QUARTERS on " + day, day <= 30 ? 40 : 36, x.officer(0, 10));
        }
        SchoolBoard later = board(1, "clause 2:excuse 0 as 2;");
        later.day(40);
        later.grantSpan(0, 0, 0, 41, 41);
        c.due("4 QUARTERS on 41", 40, later.officer(0, 10));
        c.of("35 WORTH: of 4 on each");
        SchoolBoard x = board(1, "clause 1:count present as 2;clause 2:count late as 1;");
        x.mark(0, 0, 0, 0, 0, 2);
        c.due("1 QUARTER", 3, x.officer(0, 10));
        x.mark(0, 0, 0, 0, 0, 1);
        c.due("2 QUARTERS", 2, x.officer(0, 10));
        x.mark(0, 0, 1, 0, 1, 2);
        c.due("3 QUARTERS", 1, x.officer(0, 10));
        x.mark(0, 0, 1, 0, 1, 1);
        c.due("4 QUARTERS", 0, x.officer(0, 10));
    }

    private static void worthOfDays() {
        c.of("35 WORTH: CHILDREN who are ON a SCHOOL");
        SchoolBoard x = board(1, "omit 1;");
        x.day(20);
        x.enter(0, -1, 14);
        c.due("ON one on 11, 12, 13", 12, x.officer(0, 10));
        x.enter(0, 1, 20);
        c.due("and on 20", 16, x.officer(0, 10));
        x.enter(0, -1, 0);
        x.enter(0, -1, 20);
        c.due("on none", 0, x.officer(0, 10));
        c.of("35 WORTH: DAYS on which that SCHOOL isn't shut");
        SchoolBoard y = board(1, "omit 1;");
        y.day(20);
        y.shut(0, 10, 11);
        c.due("shut on 10 and 11", 36, y.officer(0, 10));
        y.shut(0, 20, 21);
        c.due("and on 20 and 21", 32, y.officer(0, 10));
        y.shut(1, 0, 99);
        c.due("the other SCHOOL", 32, y.officer(0, 10));
        y.enter(0, 1, 15);
        c.due("there from 15 on", 12, y.officer(0, 10));
        c.of("35 WORTH: by each DAY's YEAR's CODE");
        SchoolBoard z = board(1, "clause 1:excuse 0 as 2;");
        Checks.act(z, 1, "clause 1:excuse 0 as 1;");
        z.grantSpan(0, 0, 0, 0, 799);
        z.day(99);
        c.due("on 99", 0, z.officer(0, 10));
        z.day(100);
        c.due("on 100", 2, z.officer(0, 10));
        z.day(108);
        c.due("on 108", 18, z.officer(0, 10));
        z.day(109);
        c.due("on 109", 20, z.officer(0, 10));
    }

    private static void officerMinutes() {
        c.of("35 OFFICER: 2 minutes for each CHILD and from 0, 0 to the farthest STREET (x and y) and back");
        SchoolBoard x = board(2, "omit 1;");
        x.street(0, 3, 4);
        x.street(1, 0, 5);
        c.due("15 minutes, 16 for STREET 0, 12 for 1", 2, x.officer(15, 1));
        c.due("11 minutes", 0, x.officer(11, 1));
        c.due("12 minutes", 2, x.officer(12, 1));
        c.due("16 minutes: as much WORTH, the least number", 1, x.officer(16, 1));
        c.due("17 minutes", 1, x.officer(17, 1));
        c.due("18 minutes: both", 3, x.officer(18, 1));
        c.due("minutes of both", 18, x.officer(2000, 2));
        c.due("minutes of STREET 1", 12, x.officer(15, 2));
        c.due("minutes of none", 0, x.officer(11, 2));
        x.child(0, 1, 0);
        c.due("a CHILD ON none takes 2 as well", 20, x.officer(2000, 2));
        c.due("19 are too few", 1, x.officer(19, 1));
        SchoolBoard far = board(1, "omit 1;");
        far.street(0, 60, 60);
        c.due("241 minutes", 0, far.officer(241, 1));
        c.due("242 minutes", 1, far.officer(242, 1));
    }

    private static void officerChooses() {
        c.of("35 OFFICER: the most WORTH within t; of several the least number (bits)");
        SchoolBoard x = board(4, "clause 1:count present as 2;");
        x.mark(3, 0, 0, 0, 1, 1);
        x.moves(1, 2);
        c.due("2 minutes: 0 has as much as 2, which takes 4", 1, x.officer(2, 1));
        c.due("4 minutes: 8 of STREET 2", 4, x.officer(4, 1));
        c.due("WORTH", 8, x.officer(4, 0));
        c.due("6 minutes", 5, x.officer(6, 1));
        c.due("8 minutes: STREET 3 lacks nothing", 5, x.officer(8, 1));
        c.due("its minutes", 6, x.officer(8, 2));
        c.of("35 OFFICER: of STREETS with CHILDREN");
        c.due("STREET 1 has none", 0, x.officer(8, 11));
        SchoolBoard far = board(3, "omit 1;");
        far.moves(0, 9);
        far.moves(1, 3);
        far.moves(2, 3);
        far.street(0, 60, 60);
        far.street(9, 2, 3);
        c.due("STREETS 3 and 9 alone: WORTH", 12, far.officer(16, 0));
        c.due("STREETS 3 and 9 alone: the set", 520, far.officer(16, 1));
        c.due("STREETS 3 and 9 alone: minutes", 16, far.officer(2000, 2));
        c.due("STREET 3 alone", 8, far.officer(15, 1));
        c.due("STREET 0, from which all moved", 0, far.officer(15, 10));
        SchoolBoard none = board(1, "clause 1:count present as 2;");
        none.mark(0, 0, 0, 0, 1, 1);
        c.due("nothing lacks: no STREET", 0, none.officer(2000, 1));
        c.due("nothing lacks: no minutes", 0, none.officer(2000, 2));
        SchoolBoard ties = board(10, "omit 1;");
        c.due("one of ten", 1, ties.officer(3, 1));
        c.due("four of ten", 15, ties.officer(9, 1));
        ties.street(0, 0, 1);
        c.due("four of ten, not the one farther off", 30, ties.officer(9, 1));
    }

    private static SchoolBoard sited(int many) {
        SchoolBoard x = board(1, "omit 1;");
        for (int i = 0; i < many; i++) {
            x.site(i, 0);
        }
        return x;
    }

    private static void site() {
        c.of("36 site: at x, y (0 to 60)");
        int[][] places = {{0, 0}, {60, 60}, {0, 60}, {60, 0}, {1, 59}};
        for (int[] place : places) {
            SchoolBoard x = new SchoolBoard();
            x.child(0, 0, 0);
            x.street(0, place[0], place[1]);
            c.due("site(" + place[0] + ", " + place[1] + ")", 0, x.site(place[0], place[1]));
            c.due("it's there", 1, x.sites(0, 0));
        }
        c.refused("x -1", -1, State::board, x -> x.site(-1, 4));
        c.refused("x 61", -1, State::board, x -> x.site(61, 4));
        c.refused("y -1", -1, State::board, x -> x.site(4, -1));
        c.refused("y 61", -1, State::board, x -> x.site(4, 61));
        c.of("36 site: 10 are there");
        SchoolBoard x = sited(8);
        c.due("the ninth", 8, x.site(9, 9));
        c.due("one not as told takes no number", -1, x.site(61, 0));
        c.due("the tenth", 9, x.site(9, 9));
        c.due("the eleventh", -1, x.site(9, 9));
        c.due("count(7)", 10, x.count(7));
        c.refused("the eleventh", -1, () -> sited(10), y -> y.site(0, 0));
    }

    private static void sitesAsked() {
        c.of("37 sites: w 0 to 120, what 0 and 1; NONE: none such");
        SchoolBoard x = new SchoolBoard();
        x.child(0, 0, 0);
        x.street(0, 60, 60);
        x.site(0, 0);
        c.due("w 120", 1, x.sites(120, 0));
        c.due("w 121", -1, x.sites(121, 0));
        c.due("w -1", -1, x.sites(-1, 0));
        c.due("w -1, nobody", -1, new SchoolBoard().sites(-1, 0));
        c.due("w 0, nobody", 0, new SchoolBoard().sites(0, 0));
        c.due("w 121, nobody", -1, new SchoolBoard().sites(121, 0));
        c.due("what -1", -1, x.sites(120, -1));
        c.due("what 2", -1, x.sites(120, 2));
        c.of("37 sites: NONE: it can't be");
        c.due("w 119", -1, x.sites(119, 0));
        c.due("w 119, the set", -1, x.sites(119, 1));
        c.due("w 0", -1, x.sites(0, 0));
    }

    private static void sitesWithinWalk() {
        c.of("37 SITES: at most w from a SCHOOL or a SITE taken (by x and y)");
        int[][] places = {{10, 20, 0}, {13, 20, 3}, {7, 20, 3}, {10, 24, 4}, {10, 16, 4}, {12, 23, 5}, {8, 17, 5}, {13, 16, 7}};
        for (int[] place : places) {
            for (int school = 0; school < 2; school++) {
                SchoolBoard x = new SchoolBoard();
                x.child(0, 5, 0);
                x.street(5, place[0], place[1]);
                int made = school == 1 ? x.school(10, 20, 0) : x.site(10, 20);
                String at = place[0] + ", " + place[1] + (made == 0 && school == 1 ? " to a SCHOOL" : " to a SITE");
                c.due(at + ", w " + place[2], 1 - school, x.sites(place[2], 0));
                c.due(at + ", w one more", 1 - school, x.sites(place[2] + 1, 1));
                if (place[2] > 0) {
                    c.due(at + ", w one less", -1, x.sites(place[2] - 1, 0));
                }
            }
        }
        c.of("37 SITES: each STREET with CHILDREN");
        SchoolBoard x = new SchoolBoard();
        x.street(3, 50, 50);
        c.due("nobody", 0, x.sites(0, 0));
        x.child(0, 3, 0);
        c.due("a CHILD on it", -1, x.sites(0, 0));
        x.moves(0, 2);
        x.site(0, 0);
        c.due("it moved", 1, x.sites(0, 0));
    }

    private static void fewestSites() {
        c.of("37 SITES: the fewest; of several the least number (bits)");
        SchoolBoard x = new SchoolBoard();
        for (int street = 0; street < 4; street++) {
            x.child(0, street, 0);
            x.street(street, 20 * street, 0);
        }
        int[] at = {0, 10, 30, 50, 60, 20, 40};
        for (int place : at) {
            x.site(place, 0);
        }
        c.due("w 0: one each", 4, x.sites(0, 0));
        c.due("w 0: the set", 1 + 16 + 32 + 64, x.sites(0, 1));
        c.due("w 10: two", 2, x.sites(10, 0));
        c.due("w 10: the set", 2 + 8, x.sites(10, 1));
        c.due("w 29: two still", 2, x.sites(29, 0));
        c.due("w 29: the least of them", 1 + 8, x.sites(29, 1));
        c.due("w 30: one", 4, x.sites(30, 1));
        c.due("w 40: one of several", 4, x.sites(40, 1));
        c.due("w 60: the first", 1, x.sites(60, 1));
        x.school(30, 0, 0);
        c.due("w 30: none", 0, x.sites(30, 1));
        c.due("w 29: two", 2, x.sites(29, 0));
        c.due("w 10: those at both ends", 2, x.sites(10, 0));
        c.due("w 10: the least of them", 1 + 8, x.sites(10, 1));
        SchoolBoard fewer = new SchoolBoard();
        for (int street = 0; street < 3; street++) {
            fewer.child(0, street, 0);
            fewer.street(street, 10 * street, 0);
        }
        fewer.site(0, 0);
        fewer.site(20, 0);
        fewer.site(10, 0);
        c.due("one of a greater number rather than two", 4, fewer.sites(10, 1));
        c.of("37 SITES: each SITE at its own x and y");
        int[][] at10 = {{0, 60}, {60, 0}, {20, 30}, {30, 20}, {30, 31}, {5, 5}, {5, 6}, {55, 44}, {44, 55}, {60, 60}};
        SchoolBoard apart = new SchoolBoard();
        apart.child(0, 8, 0);
        for (int[] place : at10) {
            apart.site(place[0], place[1]);
        }
        for (int i = 0; i < 10; i++) {
            apart.street(8, at10[i][0], at10[i][1]);
            c.due("a STREET where SITE " + i + " is", 1 << i, apart.sites(0, 1));
        }
        SchoolBoard ten = sited(10);
        ten.street(0, 9, 0);
        SchoolBoard last = new SchoolBoard();
        last.child(0, 0, 0);
        last.street(0, 9, 0);
        for (int i = 0; i < 10; i++) {
            last.site(i, 0);
        }
        c.due("the tenth SITE", 512, last.sites(0, 1));
        c.due("a SCHOOL at 9", 0, ten.sites(9, 1));
    }

    private static SchoolBoard polled(int seats, int candidates, int ballots) {
        SchoolBoard x = board(1, "omit 1;");
        x.poll(seats);
        for (int i = 0; i < candidates; i++) {
            x.candidate(i % 2);
        }
        for (int i = 0; i < ballots; i++) {
            x.ballot();
            x.heap(i, i % candidates, 1);
        }
        return x;
    }

    private static void poll() {
        c.of("38 poll: SEATS 1 to 9");
        for (int seats = 1; seats <= 9; seats += 4) {
            SchoolBoard x = new SchoolBoard();
            c.yes("poll(" + seats + ")", x.poll(seats));
            c.due("SEATS", seats, x.count(11));
        }
        c.refused("poll(0)", 0, State::board, x -> Checks.bit(x.poll(0)));
        c.refused("poll(10)", 0, State::board, x -> Checks.bit(x.poll(10)));
        c.refused("poll(-1)", 0, State::board, x -> Checks.bit(x.poll(-1)));
        c.refused("poll(0) ahead of any", 0, () -> board(1, "omit 1;"), x -> Checks.bit(x.poll(0)));
        c.of("38 poll: with no CANDIDATES and BALLOTS then");
        SchoolBoard x = polled(3, 2, 2);
        c.yes("the same SEATS again", x.poll(3));
        c.due("CANDIDATES", 0, x.count(9));
        c.due("BALLOTS", 0, x.count(10));
        c.due("candidateOf(0, 1)", -1, x.candidateOf(0, 1));
        c.due("heap(0, 0, 1)", -1, x.heap(0, 0, 1));
        c.due("sure(0)", 0, x.sure(0));
        c.due("the first CANDIDATE", 0, x.candidate(3));
        c.due("the first BALLOT", 0, x.ballot());
        c.due("its PARTY", 3, x.candidateOf(0, 0));
        c.due("no votes", 0, x.candidateOf(0, 1));
        c.due("all votes are there", 0, x.heap(0, 0, 3));
        c.due("none of the first poll's", 3, x.candidateOf(0, 1));
    }

    private static void candidate() {
        c.of("39 candidate: of PARTIES 0 to 3");
        SchoolBoard x = polled(2, 0, 0);
        c.due("party 0", 0, x.candidate(0));
        c.due("party 3", 1, x.candidate(3));
        c.due("its PARTY", 3, x.candidateOf(1, 0));
        c.refused("party -1", -1, State::board, y -> y.candidate(-1));
        c.refused("party 4", -1, State::board, y -> y.candidate(4));
        c.of("39 candidate: no poll");
        c.refused("party 0", -1, () -> board(1, "omit 1;"), y -> y.candidate(0));
        c.of("39 candidate: 10 are there");
        SchoolBoard many = polled(2, 8, 0);
        c.due("the ninth", 8, many.candidate(0));
        c.due("one not as told takes no number", -1, many.candidate(4));
        c.due("the tenth", 9, many.candidate(0));
        c.due("the eleventh", -1, many.candidate(0));
        c.due("count(9)", 10, many.count(9));
        c.refused("the eleventh", -1, () -> polled(2, 10, 3), y -> y.candidate(1));
    }

    private static void ballot() {
        c.of("40 ballot: no poll");
        c.refused("ballot()", -1, () -> board(1, "omit 1;"), SchoolBoard::ballot);
        c.of("40 ballot: 60 are there");
        SchoolBoard x = polled(2, 2, 58);
        c.due("the 59th", 58, x.ballot());
        c.due("the 60th", 59, x.ballot());
        c.due("the 61st", -1, x.ballot());
        c.due("count(10)", 60, x.count(10));
        c.due("the 60th has its heaps", 1, x.heap(59, 0, 1));
        c.due("the 61st has none", -1, x.heap(60, 0, 1));
        c.refused("the 61st", -1, () -> polled(2, 2, 60), SchoolBoard::ballot);
        c.of("40 ballot: without CANDIDATES too");
        c.due("the first", 0, polled(2, 0, 0).ballot());
    }

    private static void heap() {
        c.of("41 heap: 0 to 9 votes, together at most SEATS");
        int[][] edges = {{9, 9, 0}, {9, 8, 1}, {9, 0, 9}, {1, 0, 1}, {1, 1, 0}, {1, 2, -1}, {8, 8, 0}, {8, 9, -1}, {9, 10, -1}};
        for (int[] edge : edges) {
            c.due(edge[1] + " votes of " + edge[0], edge[2], opened(edge[0]).heap(0, 0, edge[1]));
        }
        c.refused("votes -1", -1, State::board, x -> x.heap(0, 0, -1));
        c.refused("votes 10", -1, State::board, x -> x.heap(0, 0, 10));
        c.refused("votes 2 behind 2 of 3", -1, State::board, x -> x.heap(0, 0, 2));
        c.refused("votes 3 behind 1 of 3", -1, State::board, x -> x.heap(0, 1, 3));
        SchoolBoard x = opened(5);
        c.due("3 of 5", 2, x.heap(0, 0, 3));
        c.due("3 behind 3", -1, x.heap(0, 1, 3));
        c.due("2 behind 3", 0, x.heap(0, 1, 2));
        c.due("1 behind 5", -1, x.heap(0, 2, 1));
        c.due("0 behind 5", 0, x.heap(0, 2, 0));
        c.of("41 heap: in place of what was");
        c.due("3 in place of 3", 0, x.heap(0, 0, 3));
        c.due("4 in place of 3", -1, x.heap(0, 0, 4));
        c.due("2 in place of 3", 1, x.heap(0, 0, 2));
        c.due("3 in place of 2", 0, x.heap(0, 0, 3));
        c.due("0 in place of 3", 3, x.heap(0, 0, 0));
        c.due("3 on another", 0, x.heap(0, 2, 3));
        int[] due = {0, 2, 3};
        for (int candidate = 0; candidate < 3; candidate++) {
            c.due("votes of " + candidate, due[candidate], x.candidateOf(candidate, 1));
        }
        c.of("41 heap: each BALLOT has its own");
        c.due("5 of 5", 0, x.heap(1, 0, 5));
        c.due("votes of 0", 5, x.candidateOf(0, 1));
        c.of("41 heap: of 60 BALLOTS on 10 CANDIDATES each its own");
        SchoolBoard full = polled(9, 10, 0);
        for (int ballot = 0; ballot < 60; ballot++) {
            full.ballot();
        }
        c.due("the last BALLOT, the last CANDIDATE", 2, full.heap(59, 9, 7));
        c.due("the last BALLOT, the first CANDIDATE", 1, full.heap(59, 0, 1));
        c.due("the last BALLOT, the last CANDIDATE again", 6, full.heap(59, 9, 2));
        c.due("the BALLOT ahead of it, the last CANDIDATE", 4, full.heap(58, 9, 5));
        c.due("the first BALLOT, the first CANDIDATE", 0, full.heap(0, 0, 9));
        int[] last = {10, 0, 0, 0, 0, 0, 0, 0, 0, 7};
        for (int candidate = 0; candidate < 10; candidate++) {
            c.due("votes of " + candidate + " of ten", last[candidate], full.candidateOf(candidate, 1));
        }
        c.of("41 heap: a BALLOT and a CANDIDATE that are there");
        c.due("the last of both", 4, x.heap(2, 2, 1));
        c.refused("ballot -1", -1, State::board, y -> y.heap(-1, 0, 0));
        c.refused("the BALLOT behind the last", -1, State::board, y -> y.heap(1, 0, 0));
        c.refused("candidate -1", -1, State::board, y -> y.heap(0, -1, 0));
        c.refused("the CANDIDATE behind the last", -1, State::board, y -> y.heap(0, 2, 0));
        c.refused("no poll", -1, () -> board(1, "omit 1;"), y -> y.heap(0, 0, 0));
    }

    /** Three CANDIDATES of PARTY 0 and three BALLOTS. */
    private static SchoolBoard opened(int seats) {
        SchoolBoard x = new SchoolBoard();
        x.poll(seats);
        for (int i = 0; i < 3; i++) {
            x.candidate(0);
            x.ballot();
        }
        return x;
    }

    /** CANDIDATES of the parties told, each with so many votes. */
    private static SchoolBoard voted(int seats, int[] parties, int... votes) {
        SchoolBoard x = new SchoolBoard();
        x.poll(seats);
        for (int party : parties) {
            x.candidate(party);
        }
        for (int candidate = 0; candidate < votes.length; candidate++) {
            for (int left = votes[candidate]; left > 0; left -= seats) {
                x.heap(x.ballot(), candidate, Math.min(left, seats));
            }
        }
        return x;
    }

    private static void places(String what, SchoolBoard x, int... due) {
        for (int candidate = 0; candidate < due.length; candidate++) {
            c.due(what + ", the place of " + candidate, due[candidate], x.candidateOf(candidate, 2));
        }
    }

    private static void elected() {
        c.of("42 ELECTED: the SEATS with the most votes; of as many the lesser number");
        int[] four = {0, 1, 2, 3};
        places("one of 4", voted(1, four, 3, 4, 5, 4), -1, -1, 0, -1);
        places("two of 4", voted(2, four, 3, 4, 5, 4), -1, 1, 0, -1);
        places("three of 4", voted(3, four, 3, 4, 5, 4), -1, 1, 0, 2);
        places("four of 4", voted(4, four, 3, 4, 5, 4), 3, 1, 0, 2);
        places("nine of 4", voted(9, four, 3, 4, 5, 4), 3, 1, 0, 2);
        places("no votes", voted(2, four), 0, 1, -1, -1);
        places("one vote", voted(2, four, 0, 0, 0, 1), 1, -1, -1, 0);
        places("ten of as many", voted(9, new int[10]), 0, 1, 2, 3, 4, 5, 6, 7, 8, -1);
        c.of("42 candidateOf: PARTY (0), votes (1), the place (2); NONE: none such");
        SchoolBoard x = voted(2, four, 3, 4, 5, 4);
        c.due("PARTY", 3, x.candidateOf(3, 0));
        c.due("votes", 4, x.candidateOf(3, 1));
        c.due("what -1", -1, x.candidateOf(1, -1));
        c.due("what 3", -1, x.candidateOf(1, 3));
        c.due("candidate -1", -1, x.candidateOf(-1, 1));
        c.due("the CANDIDATE behind the last", -1, x.candidateOf(4, 1));
        c.due("no poll", -1, new SchoolBoard().candidateOf(0, 0));
    }

    private static void sure() {
        c.of("43 sure: PARTIES 0 to 3; NONE: no such PARTY, no poll");
        SchoolBoard x = voted(2, new int[] {0, 3}, 1, 1);
        c.due("party 0", 1, x.sure(0));
        c.due("party 3", 1, x.sure(3));
        c.due("a PARTY without CANDIDATES", 0, x.sure(1));
        c.due("party -1", -1, x.sure(-1));
        c.due("party 4", -1, x.sure(4));
        c.due("no poll", -1, new SchoolBoard().sure(0));
        c.of("43 SURE: up to its CANDIDATES, SEATS");
        c.due("3 CANDIDATES, 9 SEATS", 3, voted(9, new int[] {1, 1, 1}).sure(1));
        c.due("3 CANDIDATES, 3 SEATS", 3, voted(3, new int[] {1, 1, 1}).sure(1));
        c.due("3 CANDIDATES, 2 SEATS", 2, voted(2, new int[] {1, 1, 1}).sure(1));
        c.due("10 CANDIDATES, 9 SEATS", 9, voted(9, new int[10]).sure(0));
        c.of("43 SURE: all its votes on s (the lesser numbers) as evenly as can be (the first ones one more)");
        int[] ahead = {0, 0, 1, 1};
        int[] behind = {1, 1, 0, 0};
        c.due("6 as 3, 3 beside 3, 3: the lesser numbers", 2, voted(2, ahead, 0, 6, 3, 3).sure(0));
        c.due("6 as 3, 3 behind 3, 3", 1, voted(2, behind, 3, 3, 0, 6).sure(0));
        c.due("7 as 4, 3 behind 3, 3", 1, voted(2, behind, 3, 3, 0, 7).sure(0));
        c.due("8 as 4, 4 behind 3, 3", 2, voted(2, behind, 3, 3, 0, 8).sure(0));
        c.due("5 as 3, 2 ahead of 2, 2", 2, voted(2, ahead, 5, 0, 2, 2).sure(0));
        c.due("5 as 3, 2 ahead of 3, 2", 1, voted(2, ahead, 5, 0, 3, 2).sure(0));
        c.due("5 as 3, 2 ahead of 3, 0", 1, voted(2, ahead, 5, 0, 3, 0).sure(0));
        c.due("3 as 3 behind 3, one SEAT", 0, voted(1, new int[] {1, 0}, 3, 3).sure(0));
        c.due("4 as 4 behind 3, one SEAT", 1, voted(1, new int[] {1, 0}, 3, 4).sure(0));
        c.due("3 as 2, 1 behind 1, 1", 1, voted(2, behind, 1, 1, 3, 0).sure(0));
        c.due("3 as 2, 1 behind 1, 0", 1, voted(2, behind, 1, 0, 3, 0).sure(0));
        c.due("3 as 2, 1 behind 1, 0, three SEATS", 2, voted(3, behind, 1, 0, 3, 0).sure(0));
        c.due("0 behind 1, 1", 0, voted(2, behind, 1, 1, 0, 0).sure(0));
        c.due("1 behind 1, 1", 0, voted(2, behind, 1, 1, 0, 1).sure(0));
        c.due("2 behind 1, 1", 1, voted(2, behind, 1, 1, 2, 0).sure(0));
        c.due("6 as 3, 3 with 5 beside them", 1, voted(2, new int[] {1, 0, 0}, 5, 6, 0).sure(0));
        c.due("6 as 2, 2, 2 with 3 beside them, three SEATS", 2, voted(3, new int[] {0, 0, 1, 0}, 0, 6, 3, 0).sure(0));
        c.of("43 SURE: others' votes as they are");
        c.due("the other PARTY beside 6, 0", 2, voted(3, ahead, 6, 0, 1, 1).sure(1));
        c.due("the other PARTY beside 3, 3", 1, voted(3, ahead, 3, 3, 1, 1).sure(1));
        c.of("43 SURE: the greatest s, though a lesser one were not");
        SchoolBoard odd = voted(3, new int[] {1, 0, 0, 0}, 0, 0, 0, 0);
        c.due("no votes at all: 2 of 3 SEATS", 2, odd.sure(0));
        places("nothing changes by asking", voted(2, ahead, 0, 6, 3, 3), -1, 0, 1, -1);
    }

    private static SchoolBoard housed(int many) {
        SchoolBoard x = board(1, "omit 1;");
        for (int i = 0; i < many; i++) {
            x.house(7);
        }
        return x;
    }

    private static void house() {
        c.of("44 house: of a value 1 to 500 pounds");
        int[] values = {1, 2, 499, 500};
        for (int value : values) {
            SchoolBoard x = new SchoolBoard();
            c.due("house(" + value + ")", 0, x.house(value));
            c.due("pays", value, x.rate(1, 10));
        }
        c.refused("house(0)", -1, State::board, x -> x.house(0));
        c.refused("house(-1)", -1, State::board, x -> x.house(-1));
        c.refused("house(501)", -1, State::board, x -> x.house(501));
        c.of("44 house: 40 are there");
        SchoolBoard x = housed(38);
        c.due("the 39th", 38, x.house(7));
        c.due("one not as told takes no number", -1, x.house(501));
        c.due("the 40th", 39, x.house(7));
        c.due("the 41st", -1, x.house(7));
        c.due("count(8)", 40, x.count(8));
        c.due("what comes", 280, x.rate(280, 1));
        c.refused("the 41st", -1, () -> housed(40), y -> y.house(500));
    }

    private static void rateAsked() {
        c.of("45 rate: pence 0 to 9,999,999, what 0, 1, 10 + h");
        SchoolBoard x = new SchoolBoard();
        for (int i = 0; i < 40; i++) {
            x.house(500);
        }
        c.due("pence 0", 0, x.rate(0, 0));
        c.due("pence 0, what comes", 0, x.rate(0, 1));
        c.due("pence 9,600,000", 480, x.rate(9600000, 0));
        c.due("pence 9,600,001", -1, x.rate(9600001, 0));
        c.due("pence 9,999,999", -1, x.rate(9999999, 0));
        c.due("pence 10,000,000", -1, x.rate(10000000, 0));
        c.due("pence -1", -1, x.rate(-1, 0));
        c.due("HOUSE 0", 500, x.rate(1, 10));
        c.due("HOUSE 39", 500, x.rate(1, 49));
        c.due("the HOUSE behind the last", -1, x.rate(1, 50));
        c.due("what 9", -1, x.rate(1, 9));
        c.due("what 2", -1, x.rate(1, 2));
        c.due("what -1", -1, x.rate(1, -1));
        c.of("45 rate: NONE: it can't be");
        SchoolBoard none = new SchoolBoard();
        c.due("no HOUSES, 0 pence", 0, none.rate(0, 0));
        c.due("no HOUSES, 1 penny", -1, none.rate(1, 0));
        c.due("no HOUSES, what comes", -1, none.rate(1, 1));
        none.house(1);
        c.due("480 pence of one pound", 480, none.rate(480, 0));
        c.due("481", -1, none.rate(481, 0));
        c.due("481, what comes", -1, none.rate(481, 1));
        c.due("481, what it pays", -1, none.rate(481, 10));
    }

    private static void rateLeast() {
        c.of("45 RATES: the least r by which at least so many pence come");
        SchoolBoard x = new SchoolBoard();
        x.house(10);
        x.house(25);
        int[][] edges = {{1, 1}, {34, 1}, {35, 1}, {36, 2}, {70, 2}, {71, 3}, {16764, 479}, {16765, 479}, {16766, 480}, {16800, 480}};
        for (int[] edge : edges) {
            c.due("rate of " + edge[0], edge[1], x.rate(edge[0], 0));
            c.due("what comes", edge[1] * 35, x.rate(edge[0], 1));
            c.due("HOUSE 0 pays", edge[1] * 10, x.rate(edge[0], 10));
            c.due("HOUSE 1 pays", edge[1] * 25, x.rate(edge[0], 11));
        }
        c.due("rate of 16801", -1, x.rate(16801, 0));
        SchoolBoard pound = new SchoolBoard();
        pound.house(1);
        for (int pence = 0; pence <= 480; pence++) {
            c.due("rate of " + pence + " of one pound", pence, pound.rate(pence, 0));
        }
        c.due("rate of 481 of one pound", -1, pound.rate(481, 0));
    }

    private static void rateSmall() {
        c.of("45 RATES: those below \"small\" half of it, cut");
        int[][] edges = {{7, 6, 3, 6}, {7, 7, 7, 14}, {7, 8, 8, 16}, {0, 1, 1, 2}, {1, 1, 1, 2}, {2, 1, 0, 1}, {8, 7, 3, 7},
            {500, 500, 500, 1000}, {500, 499, 249, 499}, {501, 500, 250, 500}, {9999, 500, 250, 500}};
        for (int[] edge : edges) {
            SchoolBoard x = new SchoolBoard();
            x.house(edge[1]);
            x.house(500);
            Checks.act(x, 0, "clause 1:small " + edge[0] + ";");
            int big = edge[0] > 500 ? 250 : 500;
            c.due("value " + edge[1] + " below " + edge[0] + " at 1", edge[2], x.rate(1, 10));
            c.due("what comes at 1", edge[2] + big, x.rate(1, 1));
            c.due("value " + edge[1] + " below " + edge[0] + " at 2", edge[3], x.rate(edge[2] + big + 1, 10));
            c.due("what comes at 2", edge[3] + 2 * big, x.rate(edge[2] + big + 1, 1));
        }
        c.of("45 RATES: small (least NUMBER; none: 0), by TODAY's YEAR's CODE");
        SchoolBoard x = new SchoolBoard();
        x.house(9);
        c.due("none", 9, x.rate(9, 10));
        Checks.act(x, 0, "clause 9:small 1;clause 8:small 10;");
        c.due("the least NUMBER's", 4, x.rate(4, 10));
        c.due("the rate of 9", 2, x.rate(9, 0));
        c.due("the rate of 10", 3, x.rate(10, 0));
        Checks.act(x, 1, "omit 8;");
        x.day(99);
        c.due("on 99", 4, x.rate(4, 10));
        x.day(100);
        c.due("on 100", 9, x.rate(4, 10));
        SchoolBoard each = new SchoolBoard();
        each.house(3);
        each.house(3);
        Checks.act(each, 0, "clause 8:small 10;");
        c.due("each half cut by itself", 2, each.rate(2, 1));
        c.due("not together", 2, each.rate(3, 0));
    }

    private static void count() {
        c.of("46 count: 0 to 12; NONE for others");
        SchoolBoard x = State.board();
        int[] due = {110, 3, 2, 11, 1, 2, 1, 1, 2, 2, 1, 3, 20};
        for (int what = 0; what < due.length; what++) {
            c.due("count(" + what + ")", due[what], x.count(what));
        }
        c.due("count(-1)", -1, x.count(-1));
        c.due("count(13)", -1, x.count(13));
        c.due("count(MAX)", -1, x.count(Integer.MAX_VALUE));
        c.of("46 count: SEATS (0) without a poll");
        c.due("count(11)", 0, new SchoolBoard().count(11));
        c.of("46 count: UNDONE ones are numbers in the BOOK still");
        x.undo(0);
        c.due("count(3)", 11, x.count(3));
        c.due("count(4)", 2, x.count(4));
    }
}
