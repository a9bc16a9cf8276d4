/** Promises 1 to 15, sentence by sentence: the value at each edge, the one just inside it, the one just outside it. */
public final class TellingEdgesTest {
    private static final Checks c = new Checks();

    public static void main(String[] args) {
        newObject();
        day();
        child();
        childFortieth();
        age();
        school();
        street();
        moves();
        enterAsTold();
        enterOrder();
        enterFull();
        enterByItsDay();
        shut();
        markDays();
        markHalves();
        grantSpan();
        grantSpanLimits();
        certificate();
        result();
        undo();
        known();
        book();
        on();
        onLastEntry();
        marked();
        c.end();
    }

    private static SchoolBoard onDay(int day, SchoolBoard x) {
        x.day(day);
        return x;
    }

    private static void newObject() {
        SchoolBoard x = new SchoolBoard();
        c.of("1 a new object: no CHILDREN");
        c.due("count(1)", 0, x.count(1));
        c.no("moves(0, 0)", x.moves(0, 0));
        c.due("fees(0, 0, 1)", -1000000, x.fees(0, 0, 1));
        c.of("1 a new object: no SCHOOLS");
        c.due("count(2)", 0, x.count(2));
        c.due("holds(0, 0)", -2, x.holds(0, 0));
        c.due("grant(0, 0, 0, 0, 1)", -1, x.grant(0, 0, 0, 0, 1));
        c.of("1 a new object: no ACTS");
        c.due("count(5)", 0, x.count(5));
        c.due("fault()", -1, x.fault());
        c.due("the first ACT's number", 0, Checks.act(x, 7, "omit 1;"));
        SchoolBoard y = new SchoolBoard();
        c.of("1 a new object: the CODE has no clauses");
        for (int year = 0; year < 8; year++) {
            c.due("clause(" + year + ", NONE, 0)", 0, y.clause(year, -1, 0));
            c.due("clause(" + year + ", 0, 0)", -1, y.clause(year, 0, 0));
            c.due("written(" + year + ", NONE)", 0, y.written(year, -1));
        }
        c.of("1 a new object: TODAY is 0 at first");
        c.due("count(0)", 0, y.count(0));
        c.due("child(1, 0, 0)", -1, y.child(1, 0, 0));
        c.due("child(0, 9, 0)", 0, y.child(0, 9, 0));
        c.of("1 a new object: STREETS are at 0, 0 at first");
        y.site(0, 0);
        c.due("sites(0, 0)", 1, y.sites(0, 0));
        c.of("1 a new object: nothing else");
        for (int what = 3; what <= 12; what++) {
            c.due("count(" + what + ")", what == 5 ? 0 : what == 7 ? 1 : 0, y.count(what));
        }
        c.due("a poll, ballot()", -1, y.ballot());
        c.due("NONE", -1, SchoolBoard.NONE);
        c.of("1 an object is used for at most 512 calls");
        SchoolBoard z = new SchoolBoard();
        for (int call = 1; call < 512; call++) {
            z.day(call);
        }
        c.due("the 512th", 511, z.count(0));
        c.due("another object is a new one", 0, new SchoolBoard().count(0));
    }

    private static void day() {
        c.of("2 day: TODAY becomes a later DAY");
        SchoolBoard x = onDay(50, new SchoolBoard());
        c.no("day(49) on 50", x.day(49));
        c.no("day(50) on 50", x.day(50));
        c.yes("day(51) on 50", x.day(51));
        c.due("TODAY", 51, x.count(0));
        c.of("2 day: none above 799");
        c.no("day(800)", x.day(800));
        c.yes("day(798)", x.day(798));
        c.yes("day(799)", x.day(799));
        c.no("day(800) on 799", x.day(800));
        c.due("TODAY", 799, x.count(0));
        c.of("2 day: false, doing nothing");
        c.refused("day(109) on 110", 0, State::board, y -> Checks.bit(y.day(109)));
        c.refused("day(110) on 110", 0, State::board, y -> Checks.bit(y.day(110)));
        c.refused("day(800)", 0, State::board, y -> Checks.bit(y.day(800)));
        c.refused("day(-1)", 0, State::board, y -> Checks.bit(y.day(-1)));
    }

    private static void child() {
        c.of("3 child: born on a DAY (-1,500 to TODAY)");
        c.due("child(-1500, ..)", 0, onDay(20, new SchoolBoard()).child(-1500, 0, 0));
        c.due("child(-1499, ..)", 0, onDay(20, new SchoolBoard()).child(-1499, 0, 0));
        c.due("child(20, ..) on 20", 0, onDay(20, new SchoolBoard()).child(20, 0, 0));
        c.due("child(19, ..) on 20", 0, onDay(20, new SchoolBoard()).child(19, 0, 0));
        c.due("child(0, ..) on 0", 0, new SchoolBoard().child(0, 0, 0));
        c.due("child(1, ..) on 0", -1, new SchoolBoard().child(1, 0, 0));
        c.refused("child(-1501, ..)", -1, State::board, x -> x.child(-1501, 0, 0));
        c.refused("child(111, ..) on 110", -1, State::board, x -> x.child(111, 0, 0));
        c.of("3 child: at a STREET 0 to 9");
        c.due("street 0", 0, new SchoolBoard().child(0, 0, 0));
        c.due("street 9", 0, new SchoolBoard().child(0, 9, 0));
        c.refused("street -1", -1, State::board, x -> x.child(0, -1, 0));
        c.refused("street 10", -1, State::board, x -> x.child(0, 10, 0));
        c.of("3 child: of a STANDARD 0 to 6");
        for (int standard = 0; standard <= 6; standard++) {
            SchoolBoard x = new SchoolBoard();
            c.due("standard " + standard, 0, x.child(0, 0, standard));
            c.due("as it came", standard, x.standard(0, 0, 0));
        }
        c.refused("standard -1", -1, State::board, x -> x.child(0, 0, -1));
        c.refused("standard 7", -1, State::board, x -> x.child(0, 0, 7));
    }

    private static void childFortieth() {
        c.of("3 child: 40 are there");
        SchoolBoard x = Checks.board(38, 1);
        c.due("the 39th", 38, x.child(0, 0, 0));
        c.due("one not as told takes no number", -1, x.child(0, 10, 0));
        c.due("the 40th", 39, x.child(0, 0, 5));
        c.due("the 41st", -1, x.child(0, 0, 0));
        c.due("the 42nd", -1, x.child(0, 0, 0));
        c.due("the 40th is as it was", 5, x.standard(39, 0, 0));
        c.due("none beyond", -1, x.standard(40, 0, 0));
        c.due("count(1)", 40, x.count(1));
        c.refused("the 41st", -1, () -> Checks.board(40, 1), y -> y.child(-700, 0, 2));
    }

    /** QUARTERS on a DAY of a CHILD born on a DAY, with an IF. */
    private static int asked(int born, int day, String condition) {
        SchoolBoard x = new SchoolBoard();
        Checks.act(x, 0, "clause 1:count present as 1 if " + condition + ";");
        x.school(0, 0, 0);
        x.day(Math.max(day, born));
        x.child(born, 0, 0);
        x.enter(0, 0, day);
        x.mark(0, day, 0, day, 1, 1);
        return x.quarters(0, day, 0, 0, x.count(0));
    }

    private static void age() {
        c.of("3 AGE on a DAY: it less the DAY of birth, by 100, cut");
        c.due("born -700, on 0", 1, asked(-700, 0, "age=7"));
        c.due("born -700, on 99", 1, asked(-700, 99, "age=7"));
        c.due("born -700, on 100", 1, asked(-700, 100, "age=8"));
        c.due("born -701, on 99", 1, asked(-701, 99, "age=8"));
        c.due("born -699, on 0", 1, asked(-699, 0, "age=6"));
        c.due("born 0, on 99", 1, asked(0, 99, "age=0"));
        c.due("born 0, on 100", 1, asked(0, 100, "age=1"));
        c.due("born -1500, on 799", 1, asked(-1500, 799, "age=22"));
        c.of("3 AGE: 0 at least");
        c.due("born 300, on 300", 1, asked(300, 300, "age=0"));
        c.due("born 300, on 299", 1, asked(300, 299, "age=0"));
        c.due("born 300, on 200", 1, asked(300, 200, "age=0"));
        c.due("born 300, on 199", 1, asked(300, 199, "age=0"));
        c.due("born 300, on 0", 1, asked(300, 0, "age=0"));
        c.due("born 300, on 0, the less side", 0, asked(300, 0, "age<0"));
    }

    private static void school() {
        c.of("4 school: at x, y (0 to 60)");
        c.due("0, 0", 0, new SchoolBoard().school(0, 0, 5));
        c.due("60, 60", 0, new SchoolBoard().school(60, 60, 5));
        c.due("1, 59", 0, new SchoolBoard().school(1, 59, 5));
        SchoolBoard few = Checks.board(1, 1);
        c.due("x -1", -1, few.school(-1, 0, 0));
        c.due("x 61", -1, few.school(61, 0, 0));
        c.due("y -1", -1, few.school(0, -1, 0));
        c.due("y 61", -1, few.school(0, 61, 0));
        c.refused("x -1", -1, State::board, x -> x.school(-1, 10, 5));
        c.refused("x 61", -1, State::board, x -> x.school(61, 10, 5));
        c.refused("y -1", -1, State::board, x -> x.school(10, -1, 5));
        c.refused("y 61", -1, State::board, x -> x.school(10, 61, 5));
        c.of("4 school: cubic feet 0 to 9,999");
        SchoolBoard roomy = new SchoolBoard();
        Checks.act(roomy, 0, "clause 1:room 1;");
        c.due("cubic 0", 0, roomy.school(0, 0, 0));
        c.due("cubic 9999", 1, roomy.school(0, 0, 9999));
        c.due("cubic 9998", 2, roomy.school(0, 0, 9998));
        c.due("holds(0, 0)", 0, roomy.holds(0, 0));
        c.due("holds(1, 0)", 9999, roomy.holds(1, 0));
        c.refused("cubic -1", -1, State::board, x -> x.school(0, 0, -1));
        c.refused("cubic 10000", -1, State::board, x -> x.school(0, 0, 10000));
        c.of("4 school: 6 are there");
        SchoolBoard x = Checks.board(0, 4);
        c.due("the fifth", 4, x.school(0, 0, 0));
        c.due("one not as told takes no number", -1, x.school(0, 0, -1));
        c.due("the sixth", 5, x.school(0, 0, 0));
        c.due("the seventh", -1, x.school(0, 0, 0));
        c.due("count(2)", 6, x.count(2));
        c.due("none beyond", -2, x.holds(6, 0));
        c.refused("the seventh", -1, () -> Checks.board(2, 6), y -> y.school(0, 0, 0));
    }

    private static void street() {
        c.of("5 street: STREETS 0 to 9");
        for (int street = 0; street < 10; street += 9) {
            SchoolBoard x = new SchoolBoard();
            x.child(0, street, 0);
            x.site(7, 3);
            c.yes("street(" + street + ", 7, 3)", x.street(street, 7, 3));
            c.due("it's there", 1, x.sites(0, 0));
        }
        c.refused("street -1", 0, State::board, x -> Checks.bit(x.street(-1, 0, 0)));
        c.refused("street 10", 0, State::board, x -> Checks.bit(x.street(10, 0, 0)));
        c.of("5 street: a place of 0 to 60 each");
        int[][] places = {{0, 0}, {60, 60}, {0, 60}, {60, 0}, {59, 1}};
        for (int[] place : places) {
            SchoolBoard x = new SchoolBoard();
            x.child(0, 4, 0);
            x.site(place[0], place[1]);
            c.yes("street(4, " + place[0] + ", " + place[1] + ")", x.street(4, place[0], place[1]));
            c.due("it's there", 1, x.sites(0, 0));
        }
        c.refused("x -1", 0, State::board, x -> Checks.bit(x.street(1, -1, 0)));
        c.refused("x 61", 0, State::board, x -> Checks.bit(x.street(1, 61, 0)));
        c.refused("y -1", 0, State::board, x -> Checks.bit(x.street(1, 0, -1)));
        c.refused("y 61", 0, State::board, x -> Checks.bit(x.street(1, 0, 61)));
    }

    private static void moves() {
        c.of("6 moves: a CHILD at a STREET 0 to 9");
        SchoolBoard x = State.board();
        c.yes("the first CHILD, to 9", x.moves(0, 9));
        c.yes("the last CHILD, to 0", x.moves(2, 0));
        c.yes("where it is already", x.moves(2, 0));
        c.refused("the CHILD behind the last", 0, State::board, y -> Checks.bit(y.moves(3, 5)));
        c.refused("child -1", 0, State::board, y -> Checks.bit(y.moves(-1, 5)));
        c.refused("street -1", 0, State::board, y -> Checks.bit(y.moves(0, -1)));
        c.refused("street 10", 0, State::board, y -> Checks.bit(y.moves(0, 10)));
        c.of("6 moves: it lives there from now on");
        SchoolBoard y = Checks.board(1, 1);
        y.enter(0, 0, 0);
        c.due("WORTH of the old STREET", 4, y.officer(0, 10));
        y.moves(0, 3);
        c.due("WORTH of the old STREET", 0, y.officer(0, 10));
        c.due("WORTH of the new STREET, DAYS ahead of the move too", 4, y.officer(0, 13));
        y.moves(0, 0);
        c.due("and back", 4, y.officer(0, 10));
    }

    private static void enterAsTold() {
        c.of("7 enter: DAY 0 to TODAY");
        c.due("day 0 on 20", 0, onDay(20, Checks.board(1, 1)).enter(0, 0, 0));
        c.due("day 20 on 20", 0, onDay(20, Checks.board(1, 1)).enter(0, 0, 20));
        c.due("day 19 on 20", 0, onDay(20, Checks.board(1, 1)).enter(0, 0, 19));
        c.refused("day -1", -1, State::board, x -> x.enter(2, 1, -1));
        c.refused("day 111 on 110", -1, State::board, x -> x.enter(2, 1, 111));
        c.of("7 enter: SCHOOL NONE is on none");
        SchoolBoard x = Checks.board(1, 2);
        x.enter(0, 1, 0);
        c.due("enter(0, NONE, 0)", 1, x.enter(0, -1, 0));
        c.due("on", -1, x.on(0, 0, 0));
        c.of("7 enter: a CHILD and a SCHOOL that are there");
        c.due("the first of both", 2, x.enter(0, 0, 0));
        c.due("the last SCHOOL", 3, x.enter(0, 1, 0));
        c.refused("school -2", -1, State::board, y -> y.enter(2, -2, 110));
        c.refused("the SCHOOL behind the last", -1, State::board, y -> y.enter(2, 2, 110));
        c.refused("child -1", -1, State::board, y -> y.enter(-1, 1, 110));
        c.refused("the CHILD behind the last", -1, State::board, y -> y.enter(3, 1, 110));
        c.refused("the CHILD behind the last, on none", -1, State::board, y -> y.enter(3, -1, 110));
    }

    private static SchoolBoard entered(int many, int children, int room) {
        SchoolBoard x = Checks.board(children, 2);
        Checks.act(x, 0, "clause 1:room " + room + ";");
        for (int i = 0; i < many; i++) {
            x.enter(0, i % 2, 0);
        }
        return x;
    }

    private static void enterOrder() {
        c.of("7 enter: -2 150 are there");
        SchoolBoard x = entered(148, 2, 0);
        c.due("the 149th", 148, x.enter(1, 0, 0));
        c.due("one not as told takes no number", -1, x.enter(1, 0, 1));
        c.due("the 150th", 149, x.enter(1, 1, 0));
        c.due("the 151st", -2, x.enter(1, 0, 0));
        c.due("the 151st, on none", -2, x.enter(1, -1, 0));
        c.due("it's where the 150th put it", 1, x.on(1, 0, 0));
        c.due("count(3)", 150, x.count(3));
        c.refused("the 151st", -2, () -> entered(150, 2, 0), y -> y.enter(1, 0, 0));
        c.of("7 enter: UNDONE ones are among the 150");
        c.yes("undo(149)", x.undo(149));
        c.due("one more", -2, x.enter(1, 0, 0));
        c.of("7 enter: others don't count among the 150");
        SchoolBoard z = entered(149, 2, 0);
        z.shut(0, 700, 700);
        z.result(0, 0, 0, 5);
        c.due("the 150th ENTRY", 151, z.enter(1, 0, 0));
        c.of("7 enter: refused at the first of NONE, -2, -3");
        c.refused("not as told, 150 there, full", -1, () -> entered(150, 2, 1000), y -> y.enter(1, 1, 1));
        c.refused("150 there, full", -2, () -> entered(150, 2, 1000), y -> y.enter(1, 1, 0));
        c.refused("not as told, full", -1, () -> entered(2, 2, 1000), y -> y.enter(1, 1, 1));
        c.refused("full", -3, () -> entered(2, 2, 1000), y -> y.enter(1, 1, 0));
        c.due("the other SCHOOL isn't", 2, entered(2, 2, 1000).enter(1, 0, 0));
    }

    private static void enterFull() {
        c.of("7 enter: -3 the SCHOOL is full (it holds 3)");
        SchoolBoard x = Checks.board(5, 2);
        Checks.act(x, 0, "clause 1:room 333;");
        c.due("holds", 3, x.holds(0, 0));
        c.due("1 of 3", 0, x.enter(0, 0, 0));
        c.due("2 of 3", 1, x.enter(1, 0, 0));
        c.due("3 of 3", 2, x.enter(2, 0, 0));
        c.due("4 of 3", -3, x.enter(3, 0, 0));
        c.due("on none still", -1, x.on(3, 0, 0));
        c.of("7 enter: it aside");
        c.due("one of the three again", 3, x.enter(1, 0, 0));
        c.of("7 enter: CHILDREN on others don't count");
        c.due("the other SCHOOL", 4, x.enter(3, 1, 0));
        c.of("7 enter: as KNOWN TODAY");
        x.day(1);
        x.undo(0);
        c.due("one is UNDONE", 6, seventh(x));
        c.of("7 enter: holds 0");
        SchoolBoard none = new SchoolBoard();
        Checks.act(none, 0, "clause 1:room 50;");
        none.child(0, 0, 0);
        none.school(0, 0, 49);
        none.school(0, 0, 50);
        c.due("49 feet by 50", -3, none.enter(0, 0, 0));
        c.due("50 feet by 50", 0, none.enter(0, 1, 0));
        c.due("on none it's never full", 1, none.enter(0, -1, 0));
        c.of("7 enter: room 0 is any");
        SchoolBoard any = new SchoolBoard();
        Checks.act(any, 0, "clause 1:room 0;");
        any.child(0, 0, 0);
        any.school(0, 0, 0);
        c.due("no feet at all", 0, any.enter(0, 0, 0));
    }

    private static int seventh(SchoolBoard x) {
        c.due("the last place", 5, x.enter(4, 0, 1));
        c.due("and full again", -3, x.enter(0, 0, 1));
        return x.enter(0, 1, 1);
    }

    private static void enterByItsDay() {
        c.of("7 enter: by CHILDREN ON it on its DAY");
        SchoolBoard x = Checks.board(3, 1);
        x.school(0, 0, 1);
        Checks.act(x, 0, "clause 1:room 1;");
        x.day(30);
        c.due("one is on it from 10 on", 0, x.enter(0, 1, 10));
        c.due("till 20", 1, x.enter(0, -1, 20));
        c.due("on 10", -3, x.enter(1, 1, 10));
        c.due("on 19", -3, x.enter(1, 1, 19));
        c.due("on 20", 2, x.enter(1, 1, 20));
        c.due("on 9, whoever comes later", 3, x.enter(2, 1, 9));
        c.of("7 enter: by its DAY's YEAR's CODE");
        SchoolBoard y = Checks.board(2, 0);
        y.school(0, 0, 10);
        Checks.act(y, 1, "clause 1:room 11;");
        Checks.act(y, 2, "clause 1:room 10;");
        y.day(299);
        c.due("on 99, any", 0, y.enter(0, 0, 99));
        c.due("on 100, none", -3, y.enter(0, 0, 100));
        c.due("on 199, none", -3, y.enter(0, 0, 199));
        c.due("on 200, one", 1, y.enter(0, 0, 200));
        c.due("on 200, a second one", -3, y.enter(1, 0, 200));
        c.due("on 99, a second one", 2, y.enter(1, 0, 99));
    }

    private static SchoolBoard shutTimes(int many) {
        SchoolBoard x = Checks.board(1, 2);
        for (int i = 0; i < many; i++) {
            x.shut(i % 2, i, i);
        }
        return x;
    }

    private static void shut() {
        c.of("8 shut: DAYS 0 to 799");
        c.due("from 0", 0, Checks.board(0, 1).shut(0, 0, 5));
        c.due("to 799", 0, Checks.board(0, 1).shut(0, 5, 799));
        c.due("0 to 799", 0, Checks.board(0, 1).shut(0, 0, 799));
        c.refused("from -1", -1, State::board, x -> x.shut(0, -1, 150));
        c.refused("to 800", -1, State::board, x -> x.shut(0, 100, 800));
        c.refused("from 800", -1, State::board, x -> x.shut(0, 800, 800));
        c.of("8 shut: from a DAY to another one, not ahead of it");
        c.due("one DAY", 0, Checks.board(0, 1).shut(0, 7, 7));
        c.due("two DAYS", 0, Checks.board(0, 1).shut(0, 7, 8));
        c.refused("to ahead of from", -1, State::board, x -> x.shut(0, 108, 107));
        SchoolBoard x = Checks.board(0, 2);
        x.shut(1, 10, 12);
        c.due("three DAYS less", 97, x.grant(1, 0, 0, 0, 1));
        c.due("of that SCHOOL alone", 100, x.grant(0, 0, 0, 0, 1));
        c.of("8 shut: a SCHOOL that is there");
        c.refused("school -1", -1, State::board, y -> y.shut(-1, 100, 105));
        c.refused("the SCHOOL behind the last", -1, State::board, y -> y.shut(2, 100, 105));
        c.of("8 shut: 30 are there");
        SchoolBoard z = shutTimes(28);
        c.due("the 29th", 28, z.shut(0, 28, 28));
        c.due("one not as told takes no number", -1, z.shut(0, 1, 0));
        c.due("the 30th", 29, z.shut(1, 29, 29));
        c.due("the 31st", -1, z.shut(0, 60, 69));
        c.due("the other SCHOOL's", -1, z.shut(1, 60, 69));
        c.due("DAYS are as they were", 85, z.grant(0, 0, 0, 0, 1));
        z.undo(3);
        c.due("UNDONE ones are among them", -1, z.shut(0, 60, 69));
        c.refused("the 31st", -1, () -> shutTimes(30), y -> y.shut(0, 50, 99));
        SchoolBoard shut = Checks.board(1, 1);
        Checks.act(shut, 0, "clause 1:count present as 1;");
        shut.day(20);
        shut.enter(0, 0, 0);
        shut.mark(0, 0, 0, 20, 1, 1);
        shut.shut(0, 8, 10);
        c.of("8 shut: from its first DAY to its last");
        int[] due = {1, 0, 0, 0, 1};
        for (int day = 7; day <= 11; day++) {
            c.due("QUARTERS on " + day, due[day - 7], shut.quarters(0, day, 1, 0, 20));
        }
    }

    private static void markDays() {
        c.of("9 mark: DAYS up to TODAY");
        c.due("0 to 0", 0, onDay(20, Checks.board(1, 1)).mark(0, 0, 0, 0, 1, 1));
        c.due("20 to 20 on 20", 0, onDay(20, Checks.board(1, 1)).mark(0, 20, 0, 20, 1, 1));
        c.due("0 to 20 on 20", 0, onDay(20, Checks.board(1, 1)).mark(0, 0, 1, 20, 0, 1));
        c.refused("to 111 on 110", -1, State::board, x -> x.mark(0, 100, 0, 111, 0, 3));
        c.refused("from 111 on 110", -1, State::board, x -> x.mark(0, 111, 0, 111, 1, 3));
        c.refused("from -1", -1, State::board, x -> x.mark(0, -1, 1, 110, 1, 3));
        c.of("9 mark: HALVES 0 and 1");
        c.refused("half -1", -1, State::board, x -> x.mark(0, 0, -1, 110, 1, 3));
        c.refused("half 2", -1, State::board, x -> x.mark(0, 0, 2, 110, 1, 3));
        c.refused("toHalf -1", -1, State::board, x -> x.mark(0, 0, 0, 110, -1, 3));
        c.refused("toHalf 2", -1, State::board, x -> x.mark(0, 0, 0, 109, 2, 3));
        c.of("9 mark: not ahead");
        c.due("a DAY's half to the same", 0, onDay(20, Checks.board(1, 1)).mark(0, 5, 1, 5, 1, 1));
        c.due("a DAY's half to the next DAY's first", 0, onDay(20, Checks.board(1, 1)).mark(0, 5, 1, 6, 0, 1));
        c.refused("second half to first", -1, State::board, x -> x.mark(0, 110, 1, 110, 0, 3));
        c.refused("to the DAY ahead", -1, State::board, x -> x.mark(0, 110, 0, 109, 1, 3));
        c.of("9 mark: 0 absent, 1 present, 2 late, 3 at work");
        for (int what = 0; what < 4; what++) {
            SchoolBoard x = Checks.board(1, 1);
            c.due("mark " + what, 0, x.mark(0, 0, 0, 0, 1, what));
            c.due("the MARK", what, x.marked(0, 0, 1, 0));
        }
        c.refused("what -1", -1, State::board, x -> x.mark(0, 0, 0, 110, 1, -1));
        c.refused("what 4", -1, State::board, x -> x.mark(0, 0, 0, 110, 1, 4));
        c.of("9 mark: a CHILD that is there");
        c.due("the last one", 0, Checks.board(3, 0).mark(2, 0, 0, 0, 1, 1));
        c.refused("child -1", -1, State::board, x -> x.mark(-1, 0, 0, 110, 1, 3));
        c.refused("the CHILD behind the last", -1, State::board, x -> x.mark(3, 0, 0, 110, 1, 3));
    }

    private static SchoolBoard markedTimes(int many) {
        SchoolBoard x = Checks.board(2, 1);
        for (int i = 0; i < many; i++) {
            x.mark(i % 2, 0, 0, 0, 1, 1);
        }
        return x;
    }

    private static void markHalves() {
        c.of("9 mark: from its first half to its last");
        SchoolBoard x = onDay(20, Checks.board(1, 1));
        x.mark(0, 6, 1, 8, 0, 2);
        int[] due = {0, 2, 2, 2, 2, 0};
        for (int half = 12; half < 18; half++) {
            c.due("half " + half % 2 + " of " + half / 2, due[half - 12], x.marked(0, half / 2, half % 2, 20));
        }
        x.mark(0, 7, 0, 7, 0, 1);
        c.due("one half alone", 1, x.marked(0, 7, 0, 20));
        c.due("the half behind it", 2, x.marked(0, 7, 1, 20));
        c.due("the half ahead of it", 2, x.marked(0, 6, 1, 20));
        c.of("9 mark: the one told last that has it");
        int put = x.mark(0, 0, 0, 20, 1, 3);
        c.due("over all of them", 3, x.marked(0, 7, 0, 20));
        x.undo(put);
        c.due("UNDONE: the one before it", 1, x.marked(0, 7, 0, 20));
        c.due("UNDONE: none", 0, x.marked(0, 6, 0, 20));
        c.of("9 mark: 300 are there");
        SchoolBoard y = markedTimes(298);
        c.due("the 299th", 298, y.mark(0, 0, 0, 0, 1, 2));
        c.due("one not as told takes no number", -1, y.mark(0, 0, 1, 0, 0, 2));
        c.due("the 300th", 299, y.mark(1, 0, 0, 0, 0, 2));
        c.due("the 301st", -1, y.mark(1, 0, 0, 0, 1, 3));
        c.due("another CHILD's", -1, y.mark(0, 0, 0, 0, 1, 3));
        c.due("count(3)", 300, y.count(3));
        c.due("as the 299th put it", 2, y.marked(0, 0, 0, 0));
        c.due("as the 300th put it", 2, y.marked(1, 0, 0, 0));
        y.undo(0);
        c.due("UNDONE ones are among them", -1, y.mark(1, 0, 0, 0, 1, 3));
        c.refused("the 301st", -1, () -> markedTimes(300), z -> z.mark(0, 0, 0, 0, 1, 2));
    }

    private static void grantSpan() {
        c.of("10 grantSpan: an EXCUSE (0), a CERTIFICATE (1), LET OFF (2)");
        SchoolBoard x = Checks.board(2, 1);
        Checks.act(x, 0, "clause 1:half;");
        for (int what = 0; what < 3; what++) {
            c.due("what " + what, what, x.grantSpan(0, what, 0, 0, 9));
            c.due("is in the BOOK as", 3 + what, x.book(what, 0));
        }
        c.refused("what -1", -1, State::board, y -> y.grantSpan(1, -1, 0, 0, 199));
        c.refused("what 3", -1, State::board, y -> y.grantSpan(1, 3, 0, 0, 199));
        c.of("10 grantSpan: of a kind 0 to 5");
        c.due("kind 0", 3, x.grantSpan(0, 0, 0, 0, 9));
        c.due("kind 5", 4, x.grantSpan(0, 0, 5, 0, 9));
        c.refused("kind -1", -1, State::board, y -> y.grantSpan(0, 0, -1, 0, 199));
        c.refused("kind 6", -1, State::board, y -> y.grantSpan(0, 0, 6, 0, 199));
        c.due("of an EXCUSE alone: a CERTIFICATE", 5, x.grantSpan(0, 1, 6, 0, 9));
        c.due("of an EXCUSE alone: LET OFF", 6, x.grantSpan(0, 2, -1, 0, 9));
        c.of("10 grantSpan: from a DAY to another one (0 to 799)");
        for (int what = 0; what < 3; what++) {
            int of = what;
            c.yes("0 to 799", x.grantSpan(0, of, 0, 0, 799) > 0);
            c.yes("799 to 799", x.grantSpan(0, of, 0, 799, 799) > 0);
            c.yes("0 to 0", x.grantSpan(0, of, 0, 0, 0) > 0);
            c.refused("from -1, what " + of, -1, State::board, y -> y.grantSpan(1, of, 1, -1, 199));
            c.refused("to 800, what " + of, -1, State::board, y -> y.grantSpan(1, of, 1, 100, 800));
            c.refused("to ahead of from, what " + of, -1, State::board, y -> y.grantSpan(1, of, 1, 110, 109));
        }
        c.of("10 grantSpan: a CHILD that is there");
        c.due("the last one", 16, x.grantSpan(1, 0, 0, 0, 9));
        c.refused("child -1", -1, State::board, y -> y.grantSpan(-1, 0, 1, 0, 199));
        c.refused("the CHILD behind the last", -1, State::board, y -> y.grantSpan(3, 0, 1, 0, 199));
    }

    private static SchoolBoard spanned(int what, int many) {
        SchoolBoard x = Checks.board(2, 1);
        Checks.act(x, 0, "clause 1:half if day=0;");
        x.enter(0, 0, 0);
        for (int i = 0; i < many; i++) {
            x.grantSpan(i % 2, what, 0, 0, 9);
        }
        return x;
    }

    private static void grantSpanLimits() {
        int[] most = {60, 30, 30};
        for (int what = 0; what < 3; what++) {
            int of = what;
            int limit = most[what];
            c.of("10 grantSpan: up to " + limit + " of what " + of);
            SchoolBoard x = spanned(of, limit - 2);
            c.due("the last but one", limit - 1, x.grantSpan(0, of, 0, 0, 0));
            c.due("one not as told takes no number", -1, x.grantSpan(0, of, 0, 1, 0));
            c.due("the last", limit, x.grantSpan(1, of, 5, 7, 7));
            c.due("one more", -1, x.grantSpan(0, of, 0, 0, 0));
            c.due("another CHILD's", -1, x.grantSpan(1, of, 0, 0, 0));
            c.due("count(3)", limit + 1, x.count(3));
            c.due("of another kind there's place", limit + 1, x.grantSpan(0, (of + 1) % 3, 0, 0, 0));
            c.due("and of the third", limit + 2, x.grantSpan(0, (of + 2) % 3, 0, 0, 0));
            x.undo(5);
            c.due("UNDONE ones are among them", -1, x.grantSpan(0, of, 0, 0, 0));
            c.refused("one more", -1, () -> spanned(of, limit), y -> y.grantSpan(0, of, 0, 0, 799));
        }
        c.of("10 grantSpan: -2 ones aren't among the 30 CERTIFICATES");
        SchoolBoard x = spanned(1, 29);
        Checks.act(x, 1, "omit 1;");
        for (int i = 0; i < 3; i++) {
            c.due("none let in YEAR 1", -2, x.grantSpan(0, 1, 0, 100, 100));
        }
        c.due("the 30th", 30, x.grantSpan(0, 1, 0, 0, 0));
        c.due("NONE ahead of -2", -1, x.grantSpan(0, 1, 0, 100, 100));
    }

    /** What a CERTIFICATE from a DAY on is answered (0 or -2), for a CHILD born on a DAY. */
    private static int let(int born, int from, String half) {
        SchoolBoard x = new SchoolBoard();
        Checks.act(x, 0, half);
        x.child(born, 0, 4);
        return x.grantSpan(0, 1, 0, from, 799);
    }

    private static void certificate() {
        c.of("10 grantSpan: -2 unless the first \"half\" on its first DAY is there");
        c.due("no clause", -2, let(-900, 50, "omit 1;"));
        c.due("without an IF", 0, let(-900, 50, "clause 1:half;"));
        c.due("AGE 9 on 99", -2, let(-900, 99, "clause 1:half if age>9;"));
        c.due("AGE 10 on 100", 0, let(-900, 100, "clause 1:half if age>9;"));
        c.due("AGE 9 on 100", -2, let(-899, 100, "clause 1:half if age>9;"));
        c.due("a later clause whose IF holds", 0, let(-900, 50, "clause 1:half if age>99;clause 2:half if age=9;"));
        c.due("standard 4", 0, let(-900, 50, "clause 1:half if standard=4;"));
        c.due("standard 5", -2, let(-900, 50, "clause 1:half if standard=5;"));
        c.due("year 0 on 99", 0, let(-900, 99, "clause 1:half if year=0;"));
        c.due("year 1 on 100", 0, let(-900, 100, "clause 1:half if year=1;"));
        c.due("year 1 on 99", -2, let(-900, 99, "clause 1:half if year=1;"));
        c.due("what isn't there is 0: day", 0, let(-900, 55, "clause 1:half if day=0;"));
        c.due("what isn't there is 0: timer, poor, half, excused", 0,
                let(-900, 55, "clause 1:half if timer=0 and poor=0 and half=0 and excused=0;"));
        c.due("what isn't there is 0: passes, quarters, subject, mark", 0,
                let(-900, 55, "clause 1:half if passes=0 and quarters=0 and subject=0 and mark=0;"));
        c.of("10 grantSpan: a CERTIFICATE's IF: what isn't there is 0, whatever the YEAR ahead had");
        SchoolBoard had = Checks.board(1, 0);
        Checks.act(had, 0, "clause 1:half if timer=0 and poor=0 and passes=0 and mark=0;clause 2:pass 5 needs 0;clause 3:rise 9;");
        had.result(0, 0, 5, 80);
        had.grantSpan(0, 2, 0, 0, 799);
        c.due("LET OFF and with a PASS", 2, had.grantSpan(0, 1, 0, 150, 799));
        c.due("a half timer too", 3, had.grantSpan(0, 1, 0, 250, 799));
        c.of("10 grantSpan: a CERTIFICATE's STANDARD as KNOWN TODAY");
        SchoolBoard risen = Checks.board(1, 0);
        Checks.act(risen, 0, "clause 1:half if standard=3;clause 2:pass 5 needs 0;clause 3:rise 1;");
        risen.day(10);
        int rise = risen.result(0, 0, 5, 80);
        c.due("by 9", 2, risen.standard(0, 1, 9));
        c.due("TODAY", 1, risen.grantSpan(0, 1, 0, 100, 100));
        c.due("in the RESULT's YEAR", -2, risen.grantSpan(0, 1, 0, 99, 99));
        risen.undo(rise);
        c.due("by 799", 2, risen.standard(0, 1, 799));
        c.due("UNDONE TODAY", -2, risen.grantSpan(0, 1, 0, 100, 100));
        c.of("10 grantSpan: -2, doing nothing: a CERTIFICATE isn't let");
        c.refused("CHILD 0 is 8 on 110", -2, State::board, x -> x.grantSpan(0, 1, 0, 110, 120));
        c.refused("CHILD 0 is 8 on 199", -2, State::board, x -> x.grantSpan(0, 1, 0, 199, 199));
        c.due("CHILD 0 is 9 on 200", 11, State.board().grantSpan(0, 1, 0, 200, 200));
    }

    private static SchoolBoard withResults(int many) {
        SchoolBoard x = Checks.board(2, 1);
        Checks.act(x, 0, "clause 1:pass 0 needs 50;");
        for (int i = 0; i < many; i++) {
            x.result(i % 2, 0, i % 6, 10);
        }
        return x;
    }

    private static void result() {
        c.of("11 result: YEAR up to TODAY's");
        c.due("year 0 on 99", 0, onDay(99, Checks.board(1, 0)).result(0, 0, 0, 0));
        c.due("year 1 on 99", -1, onDay(99, Checks.board(1, 0)).result(0, 1, 0, 0));
        c.due("year 1 on 100", 0, onDay(100, Checks.board(1, 0)).result(0, 1, 0, 0));
        c.due("year 7 on 700", 0, onDay(700, Checks.board(1, 0)).result(0, 7, 0, 0));
        c.due("year 7 on 699", -1, onDay(699, Checks.board(1, 0)).result(0, 7, 0, 0));
        c.due("year 8 on 799", -1, onDay(799, Checks.board(1, 0)).result(0, 8, 0, 0));
        c.refused("year -1", -1, State::board, x -> x.result(0, -1, 0, 80));
        c.refused("year 2 on 110", -1, State::board, x -> x.result(0, 2, 0, 80));
        c.of("11 result: a mark 0 to 100");
        SchoolBoard x = Checks.board(2, 0);
        c.due("mark 0", 0, x.result(0, 0, 0, 0));
        c.due("mark 100", 1, x.result(0, 0, 0, 100));
        c.refused("mark -1", -1, State::board, y -> y.result(0, 1, 0, -1));
        c.refused("mark 101", -1, State::board, y -> y.result(0, 1, 0, 101));
        c.of("11 result: in a SUBJECT 0 to 5");
        c.due("subject 0", 2, x.result(0, 0, 0, 5));
        c.due("subject 5", 3, x.result(0, 0, 5, 5));
        c.refused("subject -1", -1, State::board, y -> y.result(0, 1, -1, 90));
        c.refused("subject 6", -1, State::board, y -> y.result(0, 1, 6, 90));
        c.of("11 result: a CHILD that is there");
        c.due("the last one", 4, x.result(1, 0, 5, 5));
        c.refused("child -1", -1, State::board, y -> y.result(-1, 1, 0, 90));
        c.refused("the CHILD behind the last", -1, State::board, y -> y.result(3, 1, 0, 90));
        c.of("11 result: 250 are there");
        SchoolBoard z = withResults(248);
        c.due("the 249th", 248, z.result(0, 0, 0, 49));
        c.due("one not as told takes no number", -1, z.result(0, 0, 0, 101));
        c.due("the 250th", 249, z.result(1, 0, 0, 50));
        c.due("the 251st", -1, z.result(0, 0, 0, 50));
        c.due("another CHILD's", -1, z.result(1, 0, 0, 49));
        c.due("as the 249th put it", 0, z.passes(0, 0, 0, 0));
        c.due("as the 250th put it", 1, z.passes(1, 0, 0, 0));
        z.undo(100);
        c.due("UNDONE ones are among them", -1, z.result(0, 0, 0, 50));
        c.refused("the 251st", -1, () -> withResults(250), y -> y.result(0, 0, 0, 50));
    }

    private static void undo() {
        c.of("12 undo: none such in the BOOK");
        c.no("undo(0) of none", new SchoolBoard().undo(0));
        c.refused("undo(-1)", 0, State::board, x -> Checks.bit(x.undo(-1)));
        c.refused("the number behind the last", 0, State::board, x -> Checks.bit(x.undo(11)));
        SchoolBoard x = State.board();
        c.due("the BOOK's size", 11, x.count(3));
        c.yes("the last number", x.undo(10));
        c.yes("the first number", x.undo(0));
        c.due("count(4)", 3, x.count(4));
        c.due("count(3) stays", 11, x.count(3));
        c.of("12 undo: it is UNDONE");
        c.refused("undo(9) again", 0, State::board, y -> Checks.bit(y.undo(9)));
        SchoolBoard later = State.board();
        later.day(150);
        c.no("undo(9) again, later", later.undo(9));
        c.due("the DAY UNDONE stays", 110, later.book(9, 3));
        c.due("count(4) stays", 1, later.count(4));
        c.of("12 undo: all that the BOOK has can be UNDONE");
        SchoolBoard all = State.board();
        for (int n = 0; n < 11; n++) {
            c.due("undo(" + n + ")", n == 9 ? 0 : 1, Checks.bit(all.undo(n)));
            c.due("its DAY", 110, all.book(n, 3));
        }
        c.due("ON none", -1, all.on(0, 110, 110));
        c.due("absent", 0, all.marked(0, 0, 0, 110));
        c.due("open DAYS", 100, all.grant(0, 1, 1, 110, 1));
        c.due("PASSES", 0, all.passes(0, 1, 1, 110));
    }

    private static void known() {
        c.of("12 KNOWN from the DAY on which it was told till it's UNDONE");
        SchoolBoard x = Checks.board(1, 1);
        Checks.act(x, 0, "clause 1:half;clause 2:pass 0 needs 5;clause 3:excuse 0 as 1;clause 4:count present as 2 if timer=0 and poor=0;"
                + "clause 5:count present as 1;");
        x.enter(0, 0, 0);
        x.mark(0, 0, 0, 0, 0, 1);
        x.day(10);
        int[] numbers = {x.enter(0, -1, 5), x.shut(0, 3, 3), x.mark(0, 1, 0, 1, 0, 1), x.grantSpan(0, 0, 0, 2, 2),
            x.grantSpan(0, 1, 0, 0, 0), x.result(0, 0, 0, 50)};
        x.day(20);
        for (int number : numbers) {
            x.undo(number);
        }
        x.day(30);
        int[] days = {9, 10, 11, 19, 20, 21, 30};
        for (int known : days) {
            int is = known >= 10 && known < 20 ? 1 : 0;
            c.due("an ENTRY by " + known, is == 1 ? -1 : 0, x.on(0, 5, known));
            c.due("a HOLIDAY by " + known, 100 - is, x.grant(0, 0, 0, known, 1));
            c.due("a MARK by " + known, is, x.marked(0, 1, 0, known));
            c.due("an EXCUSE by " + known, is, x.quarters(0, 2, 0, 0, known));
            c.due("a CERTIFICATE by " + known, 2 - is, x.quarters(0, 0, 0, 0, known));
            c.due("a RESULT by " + known, is, x.passes(0, 0, 0, known));
        }
        int off = x.grantSpan(0, 2, 0, 0, 0);
        c.due("LET OFF by 29", 2, x.quarters(0, 0, 0, 0, 29));
        c.due("LET OFF by 30", 1, x.quarters(0, 0, 0, 0, 30));
        x.undo(off);
        c.due("told and UNDONE on one DAY", 2, x.quarters(0, 0, 0, 0, 30));
        c.due("never KNOWN then", 2, x.quarters(0, 0, 0, 0, 799));
    }

    private static void book() {
        c.of("13 book: numbers as they come, from 0 on");
        SchoolBoard x = State.board();
        int[] kinds = {0, 0, 0, 1, 2, 2, 3, 4, 5, 6, 6};
        int[] whose = {0, 1, 2, 0, 0, 1, 1, 1, 2, 2, 0};
        for (int n = 0; n < 11; n++) {
            c.due("what " + n + " is", kinds[n], x.book(n, 0));
            c.due("CHILD or SCHOOL of " + n, whose[n], x.book(n, 1));
            c.due("DAY told of " + n, 110, x.book(n, 2));
            c.due("DAY UNDONE of " + n, n == 9 ? 110 : -1, x.book(n, 3));
        }
        c.of("13 book: NONE: none such");
        for (int what = 0; what < 4; what++) {
            c.due("number -1", -1, x.book(-1, what));
            c.due("number 11", -1, x.book(11, what));
            c.due("of a new object", -1, new SchoolBoard().book(0, what));
        }
        c.due("what -1", -1, x.book(0, -1));
        c.due("what 4", -1, x.book(0, 4));
        c.of("13 book: each number's own DAY told and DAY UNDONE");
        SchoolBoard days = Checks.board(1, 1);
        for (int n = 0; n < 5; n++) {
            days.day(10 * n + 1);
            days.shut(0, n, n);
        }
        for (int n = 0; n < 5; n += 2) {
            days.day(100 + n);
            days.undo(n);
        }
        for (int n = 0; n < 5; n++) {
            c.due("DAY told of " + n, 10 * n + 1, days.book(n, 2));
            c.due("DAY UNDONE of " + n, n % 2 == 0 ? 100 + n : -1, days.book(n, 3));
        }
        c.of("13 book: the SCHOOL of a HOLIDAY, an ENTRY's CHILD");
        SchoolBoard y = Checks.board(3, 3);
        y.shut(2, 0, 0);
        y.enter(1, 2, 0);
        c.due("the SCHOOL", 2, y.book(0, 1));
        c.due("the CHILD", 1, y.book(1, 1));
    }

    private static void on() {
        c.of("14 on: DAYS 0 to 799 each");
        SchoolBoard x = Checks.board(2, 2);
        x.enter(0, 1, 0);
        c.due("day 0", 1, x.on(0, 0, 0));
        c.due("day 799", 1, x.on(0, 799, 0));
        c.due("day -1", -1, x.on(0, -1, 0));
        c.due("day 800", -1, x.on(0, 800, 0));
        c.due("known 799", 1, x.on(0, 0, 799));
        c.due("known -1", -1, x.on(0, 0, -1));
        c.due("known 800", -1, x.on(0, 0, 800));
        c.of("14 on: NONE: none such");
        c.due("child -1", -1, x.on(-1, 0, 0));
        c.due("the CHILD behind the last", -1, x.on(2, 0, 0));
        c.due("none without an ENTRY", -1, x.on(1, 0, 0));
        c.of("14 on: more CHILDREN than SCHOOLS, more SCHOOLS than CHILDREN");
        SchoolBoard many = Checks.board(40, 1);
        many.enter(39, 0, 0);
        c.due("the fortieth CHILD", 0, many.on(39, 0, 0));
        c.due("the one ahead of it", -1, many.on(38, 0, 0));
        SchoolBoard few = Checks.board(1, 6);
        few.enter(0, 5, 0);
        c.due("the sixth SCHOOL", 5, few.on(0, 0, 0));
    }

    private static void onLastEntry() {
        c.of("14 ON: by the last ENTRY KNOWN of DAYS up to that DAY");
        SchoolBoard x = Checks.board(1, 6);
        x.day(100);
        x.enter(0, 0, 50);
        c.due("the DAY ahead", -1, x.on(0, 49, 100));
        c.due("its DAY", 0, x.on(0, 50, 100));
        c.due("the DAY behind", 0, x.on(0, 51, 100));
        x.enter(0, 1, 40);
        c.due("a former DAY told later, on 40", 1, x.on(0, 40, 100));
        c.due("on 49", 1, x.on(0, 49, 100));
        c.due("on 50 the later DAY's holds", 0, x.on(0, 50, 100));
        int last = x.enter(0, 2, 60);
        c.due("on 59", 0, x.on(0, 59, 100));
        c.due("on 60", 2, x.on(0, 60, 100));
        c.of("14 ON: of one DAY the one told last");
        int again = x.enter(0, 3, 60);
        c.due("on 60", 3, x.on(0, 60, 100));
        c.due("on 59", 0, x.on(0, 59, 100));
        x.undo(last);
        c.due("the other one UNDONE", 3, x.on(0, 60, 100));
        x.undo(again);
        c.due("both UNDONE: the one before", 0, x.on(0, 60, 100));
        int none = x.enter(0, -1, 60);
        c.due("on none", -1, x.on(0, 60, 100));
        c.due("on 799", -1, x.on(0, 799, 100));
        x.undo(none);
        c.due("and not", 0, x.on(0, 799, 100));
        c.of("14 ON: as KNOWN by a DAY ahead of what was told");
        c.due("known 99", -1, x.on(0, 60, 99));
    }

    private static void marked() {
        c.of("15 marked: HALVES 0 and 1, DAYS 0 to 799 each");
        SchoolBoard x = onDay(799, Checks.board(2, 0));
        x.mark(0, 0, 0, 799, 1, 1);
        c.due("the first half", 1, x.marked(0, 0, 0, 799));
        c.due("the last half", 1, x.marked(0, 799, 1, 799));
        c.due("day -1", -1, x.marked(0, -1, 0, 799));
        c.due("day 800", -1, x.marked(0, 800, 0, 799));
        c.due("half -1", -1, x.marked(0, 1, -1, 799));
        c.due("half 2", -1, x.marked(0, 1, 2, 799));
        c.due("known 798", 0, x.marked(0, 0, 0, 798));
        c.due("known 0", 0, x.marked(0, 0, 0, 0));
        c.due("known -1", -1, x.marked(0, 0, 0, -1));
        c.due("known 800", -1, x.marked(0, 0, 0, 800));
        c.of("15 marked: NONE: none such; absent without");
        c.due("child -1", -1, x.marked(-1, 0, 0, 799));
        c.due("the CHILD behind the last", -1, x.marked(2, 0, 0, 799));
        c.due("a CHILD without MARKS", 0, x.marked(1, 0, 0, 799));
        SchoolBoard y = Checks.board(1, 0);
        y.mark(0, 0, 0, 0, 1, 3);
        c.due("DAYS to come", 0, y.marked(0, 1, 0, 0));
        c.due("on no SCHOOL", 3, y.marked(0, 0, 1, 0));
    }
}
