/** Promises 1 to 15: what is told, what can be UNDONE, and what is KNOWN when. */
public final class TellingsTest {
    private static final Checks c = new Checks();
    private static final int BIG = Integer.MAX_VALUE;
    private static final int LOW = Integer.MIN_VALUE;

    public static void main(String[] args) {
        newObject();
        day();
        child();
        school();
        street();
        moves();
        enter();
        enterFull();
        shut();
        mark();
        grantSpan();
        certificate();
        result();
        undo();
        book();
        on();
        marked();
        c.end();
    }

    private static void newObject() {
        c.of("1 a new object");
        SchoolBoard x = new SchoolBoard();
        for (int what = 0; what <= 12; what++) {
            c.due("count(" + what + ")", 0, x.count(what));
        }
        for (int year = 0; year < 8; year++) {
            c.due("clause(year, NONE, 0)", 0, x.clause(year, -1, 0));
            c.due("written(year, NONE)", 0, x.written(year, -1));
            c.due("written(year, 0)", -1, x.written(year, 0));
        }
        c.due("fault()", -1, x.fault());
        c.due("NONE", -1, SchoolBoard.NONE);
        x.child(0, 0, 0);
        c.due("another object's CHILDREN", 0, new SchoolBoard().count(1));
    }

    private static void day() {
        c.of("2 day");
        SchoolBoard x = new SchoolBoard();
        c.no("day(0)", x.day(0));
        c.no("day(-1)", x.day(-1));
        c.no("day(800)", x.day(800));
        c.no("day(BIG)", x.day(BIG));
        c.no("day(LOW)", x.day(LOW));
        c.due("count(0)", 0, x.count(0));
        c.yes("day(1)", x.day(1));
        c.no("day(1) again", x.day(1));
        c.yes("day(799)", x.day(799));
        c.no("day(798)", x.day(798));
        c.due("count(0)", 799, x.count(0));
    }

    private static void child() {
        c.of("3 child");
        SchoolBoard x = new SchoolBoard();
        c.due("child(-1501, 0, 0)", -1, x.child(-1501, 0, 0));
        c.due("child(1, 0, 0)", -1, x.child(1, 0, 0));
        c.due("child(0, -1, 0)", -1, x.child(0, -1, 0));
        c.due("child(0, 10, 0)", -1, x.child(0, 10, 0));
        c.due("child(0, 0, -1)", -1, x.child(0, 0, -1));
        c.due("child(0, 0, 7)", -1, x.child(0, 0, 7));
        c.due("child(LOW, BIG, BIG)", -1, x.child(LOW, BIG, BIG));
        c.due("count(1)", 0, x.count(1));
        c.due("child(-1500, 0, 0)", 0, x.child(-1500, 0, 0));
        c.due("child(0, 9, 6)", 1, x.child(0, 9, 6));
        x.day(30);
        c.due("child(30, 0, 0)", 2, x.child(30, 0, 0));
        c.due("child(31, 0, 0)", -1, x.child(31, 0, 0));
        for (int i = 3; i < 40; i++) {
            c.due("child " + i, i, x.child(0, 0, 0));
        }
        c.due("the 41st", -1, x.child(0, 0, 0));
        c.due("count(1)", 40, x.count(1));
    }

    private static void school() {
        c.of("4 school");
        SchoolBoard x = new SchoolBoard();
        c.due("school(-1, 0, 0)", -1, x.school(-1, 0, 0));
        c.due("school(61, 0, 0)", -1, x.school(61, 0, 0));
        c.due("school(0, -1, 0)", -1, x.school(0, -1, 0));
        c.due("school(0, 61, 0)", -1, x.school(0, 61, 0));
        c.due("school(0, 0, -1)", -1, x.school(0, 0, -1));
        c.due("school(0, 0, 10000)", -1, x.school(0, 0, 10000));
        c.due("count(2)", 0, x.count(2));
        c.due("school(60, 60, 9999)", 0, x.school(60, 60, 9999));
        for (int i = 1; i < 6; i++) {
            c.due("school " + i, i, x.school(0, 0, 0));
        }
        c.due("the seventh", -1, x.school(0, 0, 0));
        c.due("count(2)", 6, x.count(2));
    }

    private static void street() {
        c.of("5 street");
        SchoolBoard x = Checks.board(1, 0);
        c.no("street(-1, 0, 0)", x.street(-1, 0, 0));
        c.no("street(10, 0, 0)", x.street(10, 0, 0));
        c.no("street(0, -1, 0)", x.street(0, -1, 0));
        c.no("street(0, 61, 0)", x.street(0, 61, 0));
        c.no("street(0, 0, -1)", x.street(0, 0, -1));
        c.no("street(0, 0, 61)", x.street(0, 0, 61));
        x.site(10, 10);
        c.due("a walk from 0, 0", 1, x.sites(20, 0));
        c.due("a walk from 0, 0 too short", -1, x.sites(19, 0));
        c.yes("street(0, 10, 8)", x.street(0, 10, 8));
        c.due("a walk from 10, 8", 1, x.sites(2, 0));
        c.yes("street(9, 60, 60)", x.street(9, 60, 60));
        c.due("a street without CHILDREN", 1, x.sites(2, 0));
    }

    private static void moves() {
        c.of("6 moves");
        SchoolBoard x = Checks.board(1, 1);
        x.enter(0, 0, 0);
        c.no("moves(1, 0)", x.moves(1, 0));
        c.no("moves(-1, 0)", x.moves(-1, 0));
        c.no("moves(0, -1)", x.moves(0, -1));
        c.no("moves(0, 10)", x.moves(0, 10));
        c.due("WORTH of street 0", 4, x.officer(0, 10));
        c.yes("moves(0, 9)", x.moves(0, 9));
        c.due("WORTH of street 0", 0, x.officer(0, 10));
        c.due("WORTH of street 9", 4, x.officer(0, 19));
    }

    private static void enter() {
        c.of("7 enter");
        SchoolBoard x = Checks.board(2, 2);
        c.due("enter(2, 0, 0)", -1, x.enter(2, 0, 0));
        c.due("enter(-1, 0, 0)", -1, x.enter(-1, 0, 0));
        c.due("enter(0, 2, 0)", -1, x.enter(0, 2, 0));
        c.due("enter(0, -2, 0)", -1, x.enter(0, -2, 0));
        c.due("enter(0, 0, -1)", -1, x.enter(0, 0, -1));
        c.due("enter(0, 0, 1)", -1, x.enter(0, 0, 1));
        x.day(9);
        c.due("enter(0, 0, 9)", 0, x.enter(0, 0, 9));
        c.due("enter(0, -1, 0)", 1, x.enter(0, -1, 0));
        for (int i = 2; i < 150; i++) {
            x.enter(1, i % 2, i % 10);
        }
        c.due("count(3)", 150, x.count(3));
        c.due("the 151st", -2, x.enter(0, 0, 0));
        c.due("not as told comes before", -1, x.enter(0, 0, 10));
        x.undo(5);
        c.due("UNDONE ones are there too", -2, x.enter(0, 0, 0));
    }

    private static void enterFull() {
        c.of("7 enter, full");
        SchoolBoard x = Checks.board(3, 1);
        x.school(0, 0, 39);
        Checks.act(x, 1, "clause 9: room 1; clause 3: room 500;");
        x.day(100);
        c.due("holds(0, 1)", 2, x.holds(0, 1));
        c.due("first", 0, x.enter(0, 0, 100));
        c.due("second", 1, x.enter(1, 0, 100));
        c.due("third", -3, x.enter(2, 0, 100));
        c.due("who is on it already", 2, x.enter(1, 0, 100));
        c.due("none is never full", 3, x.enter(2, -1, 100));
        c.due("the YEAR ahead has no room clause", 4, x.enter(2, 0, 50));
        c.due("39 feet hold none", -3, x.enter(2, 1, 100));
        x.day(150);
        c.due("on 100 there's none but it", 5, x.enter(0, -1, 120));
        c.due("of 110 still full", -3, x.enter(2, 0, 110));
        c.due("of 120 not", 6, x.enter(2, 0, 120));
    }

    private static void shut() {
        c.of("8 shut");
        SchoolBoard x = Checks.board(1, 1);
        c.due("shut(1, 0, 0)", -1, x.shut(1, 0, 0));
        c.due("shut(-1, 0, 0)", -1, x.shut(-1, 0, 0));
        c.due("shut(0, -1, 0)", -1, x.shut(0, -1, 0));
        c.due("shut(0, 0, 800)", -1, x.shut(0, 0, 800));
        c.due("shut(0, 5, 4)", -1, x.shut(0, 5, 4));
        c.due("shut(0, 5, 5)", 0, x.shut(0, 5, 5));
        c.due("open DAYS", 99, x.grant(0, 0, 0, 0, 1));
        c.due("shut(0, 99, 799)", 1, x.shut(0, 99, 799));
        c.due("open DAYS", 98, x.grant(0, 0, 0, 0, 1));
        c.due("open DAYS of year 7", 0, x.grant(0, 7, 0, 0, 1));
        for (int i = 2; i < 30; i++) {
            c.due("shut " + i, i, x.shut(0, i, i));
        }
        c.due("the 31st", -1, x.shut(0, 0, 0));
    }

    private static void mark() {
        c.of("9 mark");
        SchoolBoard x = Checks.board(1, 1);
        x.day(20);
        c.due("mark(1, ..)", -1, x.mark(1, 0, 0, 0, 0, 1));
        c.due("from -1", -1, x.mark(0, -1, 0, 0, 0, 1));
        c.due("half 2", -1, x.mark(0, 0, 2, 1, 0, 1));
        c.due("half -1", -1, x.mark(0, 0, -1, 1, 0, 1));
        c.due("to 21", -1, x.mark(0, 0, 0, 21, 0, 1));
        c.due("toHalf 2", -1, x.mark(0, 0, 0, 1, 2, 1));
        c.due("toHalf -1", -1, x.mark(0, 0, 0, 1, -1, 1));
        c.due("what 4", -1, x.mark(0, 0, 0, 1, 0, 4));
        c.due("what -1", -1, x.mark(0, 0, 0, 1, 0, -1));
        c.due("to ahead of from", -1, x.mark(0, 3, 0, 2, 1, 1));
        c.due("toHalf ahead of half", -1, x.mark(0, 3, 1, 3, 0, 1));
        c.due("BIG days", -1, x.mark(0, BIG, 0, BIG, 0, 1));
        c.due("one half", 0, x.mark(0, 3, 1, 3, 1, 1));
        c.due("up to TODAY", 1, x.mark(0, 20, 0, 20, 1, 3));
        for (int i = 2; i < 300; i++) {
            x.mark(0, 0, 0, 20, 1, i % 4);
        }
        c.due("count(3)", 300, x.count(3));
        c.due("the 301st", -1, x.mark(0, 0, 0, 0, 0, 1));
    }

    private static void grantSpan() {
        c.of("10 grantSpan");
        SchoolBoard x = Checks.board(1, 1);
        c.due("child 1", -1, x.grantSpan(1, 0, 0, 0, 0));
        c.due("what 3", -1, x.grantSpan(0, 3, 0, 0, 0));
        c.due("what -1", -1, x.grantSpan(0, -1, 0, 0, 0));
        c.due("kind 6", -1, x.grantSpan(0, 0, 6, 0, 0));
        c.due("kind -1", -1, x.grantSpan(0, 0, -1, 0, 0));
        c.due("from -1", -1, x.grantSpan(0, 0, 0, -1, 0));
        c.due("to 800", -1, x.grantSpan(0, 0, 0, 0, 800));
        c.due("to ahead of from", -1, x.grantSpan(0, 0, 0, 2, 1));
        c.due("LET OFF, its kind isn't looked at", 0, x.grantSpan(0, 2, 77, 0, 799));
        c.due("EXCUSE", 1, x.grantSpan(0, 0, 5, 3, 3));
        for (int i = 0; i < 59; i++) {
            x.grantSpan(0, 0, 0, 0, 0);
        }
        c.due("the 61st EXCUSE", -1, x.grantSpan(0, 0, 0, 0, 0));
        for (int i = 0; i < 29; i++) {
            c.due("LET OFF", 61 + i, x.grantSpan(0, 2, 0, 0, 0));
        }
        c.due("the 31st LET OFF", -1, x.grantSpan(0, 2, 0, 0, 0));
    }

    private static void certificate() {
        c.of("10 grantSpan, certificates");
        SchoolBoard x = Checks.board(2, 1);
        c.due("no half clause", -2, x.grantSpan(0, 1, 0, 0, 10));
        c.due("not as told comes before", -1, x.grantSpan(0, 1, 0, 10, 0));
        Checks.act(x, 0, "clause 1: half if age>7 and standard=2 and year=1 and day=0 and timer=0;");
        c.due("age 7", -2, x.grantSpan(0, 1, 0, 0, 10));
        c.due("age 7 on 99", -2, x.grantSpan(0, 1, 0, 99, 199));
        c.due("age 8 on 100", 0, x.grantSpan(0, 1, 0, 100, 199));
        c.due("its CODE is that of the first DAY", -2, x.grantSpan(0, 1, 0, 200, 299));
        for (int i = 1; i < 30; i++) {
            x.grantSpan(0, 1, -5, 155, 199);
        }
        c.due("count(3)", 30, x.count(3));
        c.due("the 31st is NONE, not -2", -1, x.grantSpan(0, 1, 0, 0, 10));
        SchoolBoard y = Checks.board(1, 1);
        Checks.act(y, 0, "clause 5: pass 0 needs 1; clause 6: rise 1; clause 7: half if standard=3;");
        y.result(0, 0, 0, 50);
        c.due("STANDARD 2 in its YEAR", -2, y.grantSpan(0, 1, 0, 50, 50));
        c.due("STANDARD 3 a YEAR later", 1, y.grantSpan(0, 1, 0, 100, 100));
        y.undo(0);
        c.due("not so without the RESULT", -2, y.grantSpan(0, 1, 0, 100, 100));
    }

    private static void result() {
        c.of("11 result");
        SchoolBoard x = Checks.board(1, 1);
        c.due("child 1", -1, x.result(1, 0, 0, 0));
        c.due("year 1", -1, x.result(0, 1, 0, 0));
        c.due("year -1", -1, x.result(0, -1, 0, 0));
        c.due("subject 6", -1, x.result(0, 0, 6, 0));
        c.due("subject -1", -1, x.result(0, 0, -1, 0));
        c.due("mark 101", -1, x.result(0, 0, 0, 101));
        c.due("mark -1", -1, x.result(0, 0, 0, -1));
        c.due("mark 100", 0, x.result(0, 0, 5, 100));
        x.day(100);
        c.due("year 1 now", 1, x.result(0, 1, 0, 0));
        for (int i = 2; i < 250; i++) {
            x.result(0, 0, 0, 1);
        }
        c.due("count(3)", 250, x.count(3));
        c.due("the 251st", -1, x.result(0, 0, 0, 1));
    }

    private static void undo() {
        c.of("12 undo");
        SchoolBoard x = Checks.board(1, 1);
        c.no("undo(0)", x.undo(0));
        c.no("undo(-1)", x.undo(-1));
        c.no("undo(LOW)", x.undo(LOW));
        x.enter(0, 0, 0);
        x.day(5);
        x.mark(0, 1, 0, 2, 1, 1);
        c.no("undo(2)", x.undo(2));
        c.yes("undo(0)", x.undo(0));
        c.no("undo(0) again", x.undo(0));
        c.due("count(4)", 1, x.count(4));
        c.due("count(3)", 2, x.count(3));
        c.due("ON as KNOWN before", 0, x.on(0, 5, 4));
        c.due("ON as KNOWN from that DAY on", -1, x.on(0, 5, 5));
        x.day(9);
        c.no("later again", x.undo(0));
        c.due("the DAY stays", 5, x.book(0, 3));
        c.yes("undo(1)", x.undo(1));
        c.due("MARK as KNOWN on 8", 1, x.marked(0, 1, 0, 8));
        c.due("MARK as KNOWN on 9", 0, x.marked(0, 1, 0, 9));
        int same = x.enter(0, 0, 9);
        x.undo(same);
        c.due("told and UNDONE on one DAY", -1, x.on(0, 9, 9));
    }

    private static void book() {
        c.of("13 book");
        SchoolBoard x = Checks.board(2, 2);
        Checks.act(x, 0, "clause 1: half;");
        x.day(3);
        x.enter(1, 0, 2);
        x.shut(1, 4, 9);
        x.mark(1, 0, 0, 1, 1, 2);
        x.grantSpan(1, 0, 4, 0, 9);
        x.grantSpan(1, 1, 0, 0, 9);
        x.grantSpan(1, 2, 0, 0, 9);
        x.result(1, 0, 3, 44);
        x.day(8);
        x.undo(4);
        for (int n = 0; n < 7; n++) {
            c.due("what " + n + " is", n, x.book(n, 0));
            c.due("whose " + n + " is", 1, x.book(n, 1));
            c.due("when " + n + " was told", 3, x.book(n, 2));
            c.due("when " + n + " was UNDONE", n == 4 ? 8 : -1, x.book(n, 3));
            c.due("what 4", -1, x.book(n, 4));
            c.due("what -1", -1, x.book(n, -1));
        }
        c.due("book(7, 0)", -1, x.book(7, 0));
        c.due("book(-1, 0)", -1, x.book(-1, 0));
    }

    private static void on() {
        c.of("14 on");
        SchoolBoard x = Checks.board(2, 3);
        x.day(50);
        x.enter(0, 0, 10);
        x.enter(0, 1, 20);
        x.day(60);
        x.enter(0, 2, 15);
        x.enter(0, 0, 20);
        c.due("ahead of all", -1, x.on(0, 9, 60));
        c.due("on 10", 0, x.on(0, 10, 60));
        c.due("on 14", 0, x.on(0, 14, 60));
        c.due("on 15", 2, x.on(0, 15, 60));
        c.due("on 15 as KNOWN on 59", 0, x.on(0, 15, 59));
        c.due("on 20, the one told last", 0, x.on(0, 20, 60));
        c.due("on 20 as KNOWN on 50", 1, x.on(0, 20, 50));
        c.due("nothing KNOWN on 49", -1, x.on(0, 20, 49));
        c.due("on 799 as KNOWN on 799", 0, x.on(0, 799, 799));
        c.due("day 800 while ON", -1, x.on(0, 800, 60));
        c.due("known 800 while ON", -1, x.on(0, 20, 800));
        x.enter(0, -1, 30);
        c.due("on none", -1, x.on(0, 30, 60));
        c.due("the other one", -1, x.on(1, 30, 60));
        c.due("child 2", -1, x.on(2, 0, 0));
        c.due("day -1", -1, x.on(0, -1, 60));
        c.due("day 800", -1, x.on(0, 800, 60));
        c.due("known 800", -1, x.on(0, 20, 800));
        c.due("known -1", -1, x.on(0, 20, -1));
    }

    private static void marked() {
        c.of("15 marked");
        SchoolBoard x = Checks.board(1, 1);
        x.day(30);
        x.mark(0, 2, 1, 4, 0, 1);
        x.day(31);
        x.mark(0, 3, 0, 3, 0, 3);
        c.due("ahead of the first half", 0, x.marked(0, 2, 0, 31));
        c.due("the first half", 1, x.marked(0, 2, 1, 31));
        c.due("told last", 3, x.marked(0, 3, 0, 31));
        c.due("as KNOWN on 30", 1, x.marked(0, 3, 0, 30));
        c.due("its other half", 1, x.marked(0, 3, 1, 31));
        c.due("the last half", 1, x.marked(0, 4, 0, 31));
        c.due("behind it", 0, x.marked(0, 4, 1, 31));
        c.due("as KNOWN on 29", 0, x.marked(0, 3, 1, 29));
        x.mark(0, 0, 0, 30, 1, 0);
        c.due("absent again", 0, x.marked(0, 3, 0, 31));
        c.due("child 1", -1, x.marked(1, 0, 0, 0));
        c.due("day 800", -1, x.marked(0, 800, 0, 0));
        c.due("half 2", -1, x.marked(0, 0, 2, 0));
        c.due("half -1", -1, x.marked(0, 0, -1, 0));
        c.due("known 800", -1, x.marked(0, 0, 0, 800));
    }
}
