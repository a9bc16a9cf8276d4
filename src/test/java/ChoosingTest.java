/** Promises 33 to 46: ENTERING, the OFFICER, SITES, VOTES, RATES, and what is counted. */
public final class ChoosingTest {
    private static final Checks c = new Checks();

    public static void main(String[] args) {
        estimate();
        entering();
        enteringAsks();
        enteringTies();
        officer();
        officerChooses();
        site();
        sites();
        poll();
        candidate();
        ballot();
        heap();
        candidateOf();
        sure();
        house();
        rate();
        rateSmall();
        count();
        c.end();
    }

    private static SchoolBoard board(int children, int schools, String act) {
        SchoolBoard x = new SchoolBoard();
        for (int i = 0; i < children; i++) {
            x.child(-700, i % 10, 2);
        }
        for (int i = 0; i < schools; i++) {
            x.school(i, i, 9999);
        }
        for (int i = 0; schools > 0 && i < children; i++) {
            x.enter(i, 0, 0);
        }
        if (!act.isEmpty() && Checks.act(x, 0, act) != 0) {
            c.due("a test's own act, its fault " + x.fault(), 0, -1);
        }
        return x;
    }

    private static void estimate() {
        c.of("33 estimate");
        SchoolBoard x = board(1, 1, "clause 1: pass 5 needs 100; clause 2: grant 9 per pass 5;");
        c.no("child 1", x.estimate(1, 0, 0));
        c.no("child -1", x.estimate(-1, 0, 0));
        c.no("subject 6", x.estimate(0, 6, 0));
        c.no("subject -1", x.estimate(0, -1, 0));
        c.no("mark 101", x.estimate(0, 0, 101));
        c.no("mark -2", x.estimate(0, 0, -2));
        c.due("none yet", 0, x.entering(0, 9, 0));
        c.yes("mark 100", x.estimate(0, 5, 100));
        c.due("entered", 9, x.entering(0, 9, 0));
        c.yes("another mark", x.estimate(0, 5, 99));
        c.due("would not PASS", 0, x.entering(0, 9, 0));
        x.estimate(0, 5, 100);
        c.yes("none again", x.estimate(0, 5, -1));
        c.due("none", 0, x.entering(0, 9, 0));
    }

    private static void entering() {
        c.of("34 entering");
        SchoolBoard x = board(4, 2, "clause 1: pass 0 needs 10; clause 2: pass 1 needs 10; clause 3: grant 5 per pass 0;"
                + "clause 4: grant 8 per pass 1; clause 5: teach 1 is 3; clause 6: teach 1 is 1; clause 7: grant 1 per pass 0;"
                + "clause 8: grant 100 per child; clause 9: grant 100 per head; clause 10: attend 999;");
        x.enter(3, 1, 0);
        x.estimate(0, 0, 50);
        x.estimate(0, 1, 50);
        x.estimate(1, 1, 50);
        x.estimate(2, 0, 9);
        x.estimate(3, 0, 50);
        c.due("no hours, no pence", 0, x.entering(0, 0, 0));
        c.due("no hours, none taught", 3, x.entering(0, 0, 2));
        c.due("SUBJECT 0 takes 1 hour", 6, x.entering(0, 1, 0));
        c.due("its set", 1, x.entering(0, 1, 10));
        c.due("3 hours: 8 rather than 6, the later CHILD", 8, x.entering(0, 3, 0));
        c.due("its hours", 3, x.entering(0, 3, 1));
        c.due("the first CHILD's least set", 0, x.entering(0, 3, 10));
        c.due("the second's", 2, x.entering(0, 3, 11));
        c.due("4 hours", 14, x.entering(0, 4, 0));
        c.due("of several the least row", 1, x.entering(0, 4, 10));
        c.due("7 hours", 22, x.entering(0, 7, 0));
        c.due("both", 3, x.entering(0, 7, 10));
        c.due("more hours than needed", 22, x.entering(0, 200, 0));
        c.due("are not taken", 7, x.entering(0, 200, 1));
        c.due("UNTAUGHT", 1, x.entering(0, 200, 2));
        c.due("a CHILD that would not PASS", 0, x.entering(0, 200, 12));
        c.due("a CHILD elsewhere", 0, x.entering(0, 200, 13));
        c.due("the other SCHOOL", 6, x.entering(1, 200, 0));
        c.due("the other SCHOOL", 1, x.entering(1, 200, 13));
        c.due("child 4", -1, x.entering(0, 200, 14));
        c.due("what 3", -1, x.entering(0, 200, 3));
        c.due("what -1", -1, x.entering(0, 200, -1));
        c.due("hours 201", -1, x.entering(0, 201, 0));
        c.due("hours -1", -1, x.entering(0, -1, 0));
        c.due("school 2", -1, x.entering(2, 0, 0));
        c.due("school -1", -1, x.entering(-1, 0, 0));
    }

    /** The pence of one CHILD (age 8 at the end of YEAR 1) entered for SUBJECTS 0 and 2 with marks 40 and 60. */
    private static int entered(String condition) {
        SchoolBoard x = board(1, 1, "clause 1: pass 0 needs 10; clause 2: pass 2 needs 10; clause 3: half;"
                + "clause 4: count present as 1; clause 5: grant 1 per pass 0 if " + condition
                + "; clause 6: grant 10 per pass 2 if " + condition + ";");
        x.day(150);
        x.mark(0, 140, 0, 144, 1, 1);
        x.estimate(0, 0, 40);
        x.estimate(0, 2, 60);
        x.grantSpan(0, 1, 0, 199, 199);
        x.grantSpan(0, 2, 0, 199, 199);
        return x.entering(0, 200, 0);
    }

    private static void enteringAsks() {
        c.of("34 entering, what an IF asks");
        c.due("age=8", 11, entered("age=8"));
        c.due("standard=2", 11, entered("standard=2"));
        c.due("year=1", 11, entered("year=1"));
        c.due("timer=1 and poor=1", 11, entered("timer=1 and poor=1"));
        c.due("quarters=10", 11, entered("quarters=10"));
        c.due("passes=2", 11, entered("passes=2"));
        c.due("passes=1: one alone", 10, entered("passes=1"));
        c.due("subject=2", 10, entered("subject=2"));
        c.due("mark=40", 1, entered("mark=40"));
        c.due("day=0 and half=0 and excused=0", 11, entered("day=0 and half=0 and excused=0"));
        SchoolBoard x = board(1, 1, "clause 1: pass 0 needs 10 if passes=0 and quarters=0 and mark=40 and subject=0;"
                + "clause 2: grant 7 per pass 0; clause 4: count present as 1;");
        x.day(5);
        x.mark(0, 0, 0, 5, 1, 1);
        x.estimate(0, 0, 40);
        c.due("a pass asks neither passes nor quarters", 7, x.entering(0, 1, 0));
        Checks.act(x, 1, "omit 2; clause 3: teach 0 is 2;");
        c.due("by TODAY's YEAR's CODE", 7, x.entering(0, 1, 0));
        x.day(100);
        c.due("a YEAR later", 0, x.entering(0, 1, 0));
    }

    private static void enteringTies() {
        c.of("34 entering, the least row");
        SchoolBoard x = board(2, 1, "clause 1: pass 0 needs 0; clause 2: pass 1 needs 0; clause 3: grant 4 per pass 0;"
                + "clause 4: grant 4 per pass 1; clause 5: pass 2 needs 0;");
        for (int child = 0; child < 2; child++) {
            for (int subject = 0; subject < 3; subject++) {
                x.estimate(child, subject, 0);
            }
        }
        c.due("2 of 4 equal ones", 8, x.entering(0, 2, 0));
        c.due("none of the first CHILD", 0, x.entering(0, 2, 10));
        c.due("both of the second", 3, x.entering(0, 2, 11));
        c.due("3 of 4", 1, x.entering(0, 3, 10));
        c.due("3 of 4", 3, x.entering(0, 3, 11));
        c.due("nothing that brings nothing", 3, x.entering(0, 200, 11));
        SchoolBoard z = board(1, 1, "clause 1: pass 0 needs 50; clause 2: pass 1 needs 0; clause 3: grant 4 per pass 0;"
                + "clause 4: grant 4 per pass 1;");
        z.estimate(0, 0, 49);
        z.estimate(0, 1, 49);
        c.due("a lesser set that would not PASS", 2, z.entering(0, 1, 10));
        z.estimate(0, 0, -1);
        c.due("a lesser set without an ESTIMATE", 2, z.entering(0, 1, 10));
        SchoolBoard six = board(1, 1, "clause 1: pass 0 needs 0; clause 2: pass 1 needs 0; clause 3: pass 2 needs 0;"
                + "clause 4: pass 3 needs 0; clause 5: pass 4 needs 0; clause 6: pass 5 needs 0; clause 7: grant 9 per pass 0 if passes=6;"
                + "clause 8: grant 5 per pass 0 if passes<6;");
        for (int subject = 0; subject < 6; subject++) {
            six.estimate(0, subject, 1);
        }
        c.due("all six for the sake of one", 9, six.entering(0, 6, 0));
        c.due("its set", 63, six.entering(0, 6, 10));
        c.due("five aren't worth it", 1, six.entering(0, 5, 10));
        SchoolBoard y = board(1, 1, "clause 1: pass 0 needs 0; clause 2: grant 4 per pass 0; clause 3: teach 0 is 0;");
        y.estimate(0, 0, 0);
        c.due("no hours needed", 4, y.entering(0, 0, 0));
        c.due("an empty SCHOOL", 0, board(0, 1, "").entering(0, 5, 2));
    }

    private static void officer() {
        c.of("35 officer");
        SchoolBoard x = board(3, 1, "clause 1: count present as 2; clause 2: count late as 1;");
        c.due("one DAY of one CHILD", 4, x.officer(0, 10));
        x.day(20);
        x.mark(0, 0, 0, 11, 1, 1);
        x.mark(1, 0, 0, 20, 1, 2);
        x.enter(2, -1, 18);
        c.due("DAYS 11 to 20, one of them there", 36, x.officer(0, 10));
        c.due("two QUARTERS each DAY", 20, x.officer(0, 11));
        c.due("7 DAYS ON a SCHOOL", 28, x.officer(0, 12));
        c.due("no CHILD there", 0, x.officer(0, 13));
        x.shut(0, 15, 19);
        c.due("5 DAYS", 16, x.officer(0, 10));
        c.due("what 20", -1, x.officer(0, 20));
        c.due("what 9", -1, x.officer(0, 9));
        c.due("what 3", -1, x.officer(0, 3));
        c.due("what -1", -1, x.officer(0, -1));
        c.due("minutes -1", -1, x.officer(-1, 0));
        c.due("minutes 2001", -1, x.officer(2001, 0));
        SchoolBoard y = board(1, 1, "clause 1: count present as 2;");
        Checks.act(y, 1, "clause 1: count present as 1;");
        y.day(104);
        y.mark(0, 0, 0, 104, 1, 1);
        c.due("each DAY by its YEAR's CODE", 10, y.officer(0, 10));
    }

    private static void officerChooses() {
        c.of("35 officer, the set");
        SchoolBoard x = board(4, 1, "");
        x.street(0, 3, 0);
        x.street(1, 1, 2);
        x.street(2, 5, 5);
        x.street(3, 0, 1);
        x.moves(3, 2);
        c.due("no minutes", 0, x.officer(0, 0));
        c.due("no STREET", 0, x.officer(0, 1));
        c.due("7 minutes are too few", 0, x.officer(7, 0));
        c.due("2 and 6: the least number", 1, x.officer(8, 1));
        c.due("its WORTH", 4, x.officer(9, 0));
        c.due("its minutes", 8, x.officer(9, 2));
        c.due("both", 3, x.officer(10, 1));
        c.due("WORTH of both", 8, x.officer(10, 0));
        c.due("the far one has as much", 3, x.officer(24, 1));
        c.due("the far one and one more", 5, x.officer(26, 1));
        c.due("WORTH of them", 12, x.officer(26, 0));
        c.due("all", 7, x.officer(28, 1));
        c.due("minutes of all", 28, x.officer(2000, 2));
        x.enter(0, -1, 0);
        c.due("a STREET of no WORTH isn't visited", 6, x.officer(2000, 1));
    }

    private static void site() {
        c.of("36 site");
        SchoolBoard x = new SchoolBoard();
        c.due("x -1", -1, x.site(-1, 0));
        c.due("x 61", -1, x.site(61, 0));
        c.due("y -1", -1, x.site(0, -1));
        c.due("y 61", -1, x.site(0, 61));
        for (int i = 0; i < 10; i++) {
            c.due("site " + i, i, x.site(60, 60));
        }
        c.due("the eleventh", -1, x.site(0, 0));
        c.due("count(7)", 10, x.count(7));
    }

    private static void sites() {
        c.of("37 sites");
        SchoolBoard x = new SchoolBoard();
        c.due("no CHILDREN", 0, x.sites(0, 0));
        x.child(0, 0, 0);
        x.child(0, 1, 0);
        x.child(0, 2, 0);
        x.street(0, 0, 10);
        x.street(1, 20, 10);
        x.street(2, 40, 10);
        x.street(3, 60, 60);
        c.due("no SITES, it can't be", -1, x.sites(120, 0));
        c.due("nor a set", -1, x.sites(120, 1));
        x.site(0, 10);
        x.site(10, 10);
        x.site(20, 10);
        x.site(30, 10);
        x.site(40, 10);
        c.due("all reached by one", 1, x.sites(20, 0));
        c.due("which", 4, x.sites(20, 1));
        c.due("two are needed", 2, x.sites(10, 0));
        c.due("the least number of three pairs", 1 + 8, x.sites(10, 1));
        c.due("three are needed", 3, x.sites(0, 0));
        c.due("which", 1 + 4 + 16, x.sites(0, 1));
        x.school(20, 15, 0);
        c.due("a SCHOOL reaches one", 2, x.sites(5, 0));
        c.due("the others", 1 + 16, x.sites(5, 1));
        c.due("a SCHOOL reaches all", 0, x.sites(25, 0));
        c.due("no SITE", 0, x.sites(25, 1));
        x.moves(0, 3);
        c.due("it can't be", -1, x.sites(69, 1));
        c.due("just so", 1 << 4, x.sites(70, 1));
        c.due("w -1", -1, x.sites(-1, 0));
        c.due("w 121", -1, x.sites(121, 0));
        c.due("what 2", -1, x.sites(120, 2));
        c.due("what -1", -1, x.sites(120, -1));
    }

    private static void poll() {
        c.of("38 poll");
        SchoolBoard x = new SchoolBoard();
        c.no("poll(0)", x.poll(0));
        c.no("poll(10)", x.poll(10));
        c.no("poll(-1)", x.poll(-1));
        c.due("SEATS", 0, x.count(11));
        c.yes("poll(9)", x.poll(9));
        c.due("SEATS", 9, x.count(11));
        x.candidate(2);
        x.ballot();
        x.heap(0, 0, 9);
        c.no("poll(10) does nothing", x.poll(10));
        c.due("CANDIDATES", 1, x.count(9));
        c.due("BALLOTS", 1, x.count(10));
        c.yes("poll(1)", x.poll(1));
        c.due("SEATS", 1, x.count(11));
        c.due("no CANDIDATES", 0, x.count(9));
        c.due("no BALLOTS", 0, x.count(10));
        x.candidate(0);
        c.due("no votes left over", 0, x.candidateOf(0, 1));
        x.ballot();
        c.due("nor on the BALLOT", 0, x.heap(0, 0, 1));
    }

    private static void candidate() {
        c.of("39 candidate");
        SchoolBoard x = new SchoolBoard();
        c.due("no poll", -1, x.candidate(0));
        x.poll(3);
        c.due("party -1", -1, x.candidate(-1));
        c.due("party 4", -1, x.candidate(4));
        for (int i = 0; i < 10; i++) {
            c.due("candidate " + i, i, x.candidate(i % 4));
        }
        c.due("the eleventh", -1, x.candidate(0));
        c.due("count(9)", 10, x.count(9));
    }

    private static void ballot() {
        c.of("40 ballot");
        SchoolBoard x = new SchoolBoard();
        c.due("no poll", -1, x.ballot());
        x.poll(3);
        for (int i = 0; i < 60; i++) {
            c.due("ballot " + i, i, x.ballot());
        }
        c.due("the 61st", -1, x.ballot());
        c.due("count(10)", 60, x.count(10));
    }

    private static void heap() {
        c.of("41 heap");
        SchoolBoard x = new SchoolBoard();
        c.due("no poll", -1, x.heap(0, 0, 0));
        x.poll(5);
        x.candidate(0);
        x.candidate(0);
        c.due("no BALLOT", -1, x.heap(0, 0, 1));
        x.ballot();
        c.due("ballot 1", -1, x.heap(1, 0, 1));
        c.due("ballot -1", -1, x.heap(-1, 0, 1));
        c.due("candidate 2", -1, x.heap(0, 2, 1));
        c.due("candidate -1", -1, x.heap(0, -1, 1));
        c.due("votes -1", -1, x.heap(0, 0, -1));
        c.due("votes 10", -1, x.heap(0, 0, 10));
        c.due("votes 6 of 5", -1, x.heap(0, 0, 6));
        c.due("3 votes", 2, x.heap(0, 0, 3));
        c.due("3 more are too many", -1, x.heap(0, 1, 3));
        c.due("2 more", 0, x.heap(0, 1, 2));
        c.due("1 in place of 3", 2, x.heap(0, 0, 1));
        c.due("3 in place of 1", 0, x.heap(0, 0, 3));
        c.due("4 in place of 3", -1, x.heap(0, 0, 4));
        c.due("votes of 0", 3, x.candidateOf(0, 1));
        c.due("votes of 1", 2, x.candidateOf(1, 1));
        c.due("0 in place of 3", 3, x.heap(0, 0, 0));
        x.poll(9);
        x.candidate(0);
        x.ballot();
        c.due("9 votes", 0, x.heap(0, 0, 9));
    }

    /** A poll with a CANDIDATE for each party and as many votes as told. */
    private static SchoolBoard voted(int seats, int[] parties, int[] votes) {
        SchoolBoard x = new SchoolBoard();
        x.poll(seats);
        for (int party : parties) {
            x.candidate(party);
        }
        int ballot = -1;
        for (int candidate = 0; candidate < votes.length; candidate++) {
            for (int left = votes[candidate]; left > 0; left -= seats) {
                ballot = x.ballot();
                x.heap(ballot, candidate, Math.min(left, seats));
            }
        }
        return x;
    }

    private static void candidateOf() {
        c.of("42 candidateOf");
        SchoolBoard x = voted(3, new int[] {3, 0, 1, 2, 0}, new int[] {2, 5, 0, 5, 2});
        int[] places = {2, 0, -1, 1, -1};
        int[] votes = {2, 5, 0, 5, 2};
        int[] parties = {3, 0, 1, 2, 0};
        for (int i = 0; i < 5; i++) {
            c.due("PARTY of " + i, parties[i], x.candidateOf(i, 0));
            c.due("votes of " + i, votes[i], x.candidateOf(i, 1));
            c.due("place of " + i, places[i], x.candidateOf(i, 2));
        }
        c.due("what 3", -1, x.candidateOf(0, 3));
        c.due("what -1", -1, x.candidateOf(0, -1));
        c.due("candidate 5", -1, x.candidateOf(5, 0));
        c.due("candidate -1", -1, x.candidateOf(-1, 0));
        c.due("no poll", -1, new SchoolBoard().candidateOf(0, 0));
        c.due("no votes, but a SEAT", 1, voted(2, new int[] {0, 1}, new int[] {0, 1}).candidateOf(0, 2));
    }

    private static void sure() {
        c.of("43 sure");
        c.due("no poll", -1, new SchoolBoard().sure(0));
        SchoolBoard x = voted(3, new int[] {0, 0, 0, 1, 1}, new int[] {10, 0, 0, 4, 4});
        c.due("party -1", -1, x.sure(-1));
        c.due("party 4", -1, x.sure(4));
        c.due("5 and 5 beat 4 and 4; 4, 3, 3 don't", 2, x.sure(0));
        c.due("4 and 4 beside 10, 0, 0", 2, x.sure(1));
        c.due("a PARTY without CANDIDATES", 0, x.sure(2));
        SchoolBoard y = voted(2, new int[] {1, 0, 0, 1}, new int[] {3, 7, 0, 3});
        c.due("4 and 3: a lesser number has 3 too", 1, y.sure(0));
        SchoolBoard z = voted(2, new int[] {0, 0, 1, 1}, new int[] {7, 0, 3, 3});
        c.due("4 and 3: the lesser number wins", 2, z.sure(0));
        SchoolBoard w = voted(1, new int[] {0, 1}, new int[] {2, 3});
        c.due("none", 0, w.sure(0));
        c.due("up to SEATS", 1, w.sure(1));
        SchoolBoard ten = voted(9, new int[] {3, 3, 3, 3, 3, 3, 3, 3, 3, 3}, new int[] {9, 0, 0, 0, 0, 0, 0, 0, 0, 1});
        c.due("ten CANDIDATES, nine SEATS", 9, ten.sure(3));
        c.due("none of another PARTY", 0, ten.sure(0));
        SchoolBoard v = voted(9, new int[] {2, 2}, new int[] {0, 0});
        c.due("up to its CANDIDATES", 2, v.sure(2));
    }

    private static void house() {
        c.of("44 house");
        SchoolBoard x = new SchoolBoard();
        c.due("value 0", -1, x.house(0));
        c.due("value 501", -1, x.house(501));
        c.due("value -1", -1, x.house(-1));
        c.due("value 1", 0, x.house(1));
        c.due("value 500", 1, x.house(500));
        for (int i = 2; i < 40; i++) {
            c.due("house " + i, i, x.house(5));
        }
        c.due("the 41st", -1, x.house(5));
        c.due("count(8)", 40, x.count(8));
    }

    private static void rate() {
        c.of("45 rate");
        SchoolBoard x = new SchoolBoard();
        c.due("nothing of none", 0, x.rate(0, 0));
        c.due("a penny of none", -1, x.rate(1, 0));
        x.house(10);
        x.house(25);
        c.due("nothing", 0, x.rate(0, 0));
        c.due("what comes", 0, x.rate(0, 1));
        c.due("a penny", 1, x.rate(1, 0));
        c.due("35 pence", 1, x.rate(35, 0));
        c.due("36 pence", 2, x.rate(36, 0));
        c.due("what comes", 70, x.rate(36, 1));
        c.due("the first pays", 20, x.rate(36, 10));
        c.due("the second pays", 50, x.rate(36, 11));
        c.due("no third", -1, x.rate(36, 12));
        c.due("the most", 480, x.rate(480 * 35, 0));
        c.due("just below the most", 480, x.rate(479 * 35 + 1, 0));
        c.due("it can't be", -1, x.rate(480 * 35 + 1, 0));
        c.due("it can't be", -1, x.rate(480 * 35 + 1, 1));
        c.due("it can't be", -1, x.rate(480 * 35 + 1, 10));
        c.due("pence -1", -1, x.rate(-1, 0));
        c.due("pence 10000000", -1, x.rate(10000000, 0));
        c.due("what 2", -1, x.rate(0, 2));
        c.due("what 9", -1, x.rate(0, 9));
        c.due("what -1", -1, x.rate(0, -1));
        SchoolBoard y = new SchoolBoard();
        for (int i = 0; i < 40; i++) {
            y.house(500);
        }
        c.due("a great sum", 480, y.rate(9600000, 0));
        c.due("too great a one", -1, y.rate(9600001, 0));
        for (int r = 0; r <= 480; r++) {
            c.due("each rate", r, y.rate(r * 20000, 0));
        }
    }

    private static void rateSmall() {
        c.of("45 rate, small houses");
        SchoolBoard x = new SchoolBoard();
        x.house(9);
        x.house(10);
        Checks.act(x, 0, "clause 8: small 99; clause 4: small 10;");
        Checks.act(x, 1, "omit 4; omit 8;");
        c.due("4 and 10", 14, x.rate(14, 1));
        c.due("at 1", 1, x.rate(14, 0));
        c.due("15 pence: 9 and 20", 29, x.rate(15, 1));
        c.due("half of it, cut", 4, x.rate(14, 10));
        c.due("not below", 10, x.rate(14, 11));
        c.due("half at 3", 13, x.rate(30, 10));
        x.day(100);
        c.due("by TODAY's YEAR's CODE", 9, x.rate(14, 10));
    }

    private static void count() {
        c.of("46 count");
        SchoolBoard x = new SchoolBoard();
        x.day(7);
        for (int i = 0; i < 3; i++) {
            x.child(0, 0, 0);
        }
        x.school(0, 0, 0);
        x.school(0, 0, 0);
        for (int i = 0; i < 5; i++) {
            x.enter(0, 0, 0);
        }
        x.undo(1);
        x.undo(2);
        for (int i = 0; i < 6; i++) {
            Checks.act(x, 0, "omit 1;");
        }
        for (int i = 0; i < 4; i++) {
            x.teacher(1);
        }
        x.site(0, 0);
        for (int i = 0; i < 8; i++) {
            x.house(1);
        }
        x.poll(6);
        for (int i = 0; i < 9; i++) {
            x.candidate(0);
        }
        for (int i = 0; i < 11; i++) {
            x.ballot();
        }
        Checks.feed(x, "a");
        int[] due = {7, 3, 2, 5, 2, 6, 4, 1, 8, 9, 11, 6, 20};
        for (int what = 0; what < due.length; what++) {
            c.due("count(" + what + ")", due[what], x.count(what));
        }
        c.due("count(13)", -1, x.count(13));
        c.due("count(-1)", -1, x.count(-1));
        c.due("count(LOW)", -1, x.count(Integer.MIN_VALUE));
    }
}
