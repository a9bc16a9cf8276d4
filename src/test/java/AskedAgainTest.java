/** Promises 2 to 45: what was asked ahead of a telling doesn't change what is answered behind it, nor does asking itself. */
public final class AskedAgainTest {
    private static final Checks c = new Checks();

    public static void main(String[] args) {
        asking();
        telling();
        c.end();
    }

    private static void asking() {
        c.of("14 to 46: asking tells nothing");
        SchoolBoard x = State.board();
        c.text("asked twice", State.of(x).toString(), State.of(x).toString());
        c.text("asked once", State.of(State.board()).toString(), State.of(x).toString());
    }

    /** The same call on a board that was asked ahead of it and on one that wasn't. */
    private static void told(String call, Checks.Call what) {
        SchoolBoard asked = State.board();
        State.of(asked);
        SchoolBoard unasked = State.board();
        c.due(call, what.of(unasked), what.of(asked));
        c.same(call, State.of(unasked), State.of(asked));
        for (int kind = 0; kind < 4; kind++) {
            SchoolBoard again = State.board();
            answers(again, kind);
            what.of(again);
            c.text(call + ", one question alone", answers(unasked, kind), answers(again, kind));
        }
    }

    /** One question with all that may be asked of it, and no other: a GRANT of each SCHOOL, LINES, ENTERING. */
    private static String answers(SchoolBoard x, int kind) {
        StringBuilder all = new StringBuilder();
        for (int what = 0; what < 13; what++) {
            int answer = kind == 0 ? x.grant(0, 1, 1, 799, what) : kind == 1 ? x.grant(1, 1, 1, 799, what)
                    : kind == 2 ? x.line(0, 1, 1, 799, what / 3, what % 3) : x.entering(0, 50, what);
            all.append(answer).append(' ');
        }
        return all.toString();
    }

    private static void telling() {
        c.of("2 day, asked ahead of it");
        told("day(111)", x -> Checks.bit(x.day(111)));
        told("day(200)", x -> Checks.bit(x.day(200)));
        c.of("3 to 6 child, school, street, moves, asked ahead of them");
        told("child(..)", x -> x.child(0, 3, 1));
        told("school(..)", x -> x.school(30, 20, 7));
        told("street(..)", x -> Checks.bit(x.street(0, 60, 60)));
        told("moves(..)", x -> Checks.bit(x.moves(1, 0)));
        c.of("7 enter, asked ahead of it");
        told("enter(2, NONE, 110)", x -> x.enter(2, -1, 110));
        told("enter(0, 1, 0)", x -> x.enter(0, 1, 0));
        told("enter(1, 1, 110)", x -> x.enter(1, 1, 110));
        c.of("8 shut, asked ahead of it");
        told("shut(0, ..)", x -> x.shut(0, 107, 130));
        c.of("9 mark, asked ahead of it");
        told("mark(0, ..)", x -> x.mark(0, 100, 0, 109, 1, 0));
        told("mark(1, ..)", x -> x.mark(1, 0, 0, 110, 1, 1));
        c.of("10 grantSpan, asked ahead of it");
        told("an EXCUSE", x -> x.grantSpan(0, 0, 1, 110, 199));
        told("another one's EXCUSE", x -> x.grantSpan(1, 0, 1, 0, 199));
        told("a CERTIFICATE", x -> x.grantSpan(1, 1, 0, 100, 120));
        told("LET OFF", x -> x.grantSpan(0, 2, 0, 0, 799));
        told("another one LET OFF", x -> x.grantSpan(1, 2, 0, 0, 799));
        c.of("11 result, asked ahead of it");
        told("result(1, ..)", x -> x.result(1, 1, 0, 90));
        told("result(0, ..)", x -> x.result(0, 1, 0, 39));
        c.of("12 undo, asked ahead of it");
        for (int number = 0; number < 11; number++) {
            int n = number;
            told("undo(" + n + ")", x -> Checks.bit(x.undo(n)));
        }
        c.of("23, 25, 26 pay, teacher, proof, asked ahead of them");
        told("pay(0, 5)", x -> x.pay(0, 5));
        told("teacher(0)", x -> x.teacher(0));
        told("proof(0, 1, 100)", x -> Checks.bit(x.proof(0, 1, 100)));
        c.of("29 act, asked ahead of it");
        told("act(15, 1)", x -> x.act(15, 1));
        told("omits", x -> Checks.act(x, 1, "              omit 1;omit 5;omit 19;"));
        told("clauses", x -> Checks.act(x, 1, "clause 8:grant 99 per pass 0;clause 14:staff 0;clause 13:room 1;"));
        told("later clauses", x -> Checks.act(x, 7, "clause 7:grant 99 per head;clause 15:step 99;"));
        c.of("33 estimate, asked ahead of it");
        told("estimate(0, 0, NONE)", x -> Checks.bit(x.estimate(0, 0, -1)));
        told("estimate(1, 0, 39)", x -> Checks.bit(x.estimate(1, 0, 39)));
        c.of("36, 38 to 41, 44 site, poll, candidate, ballot, heap, house, asked ahead of them");
        told("site(10, 0)", x -> x.site(10, 0));
        told("poll(1)", x -> Checks.bit(x.poll(1)));
        told("candidate(0)", x -> x.candidate(0));
        told("ballot()", SchoolBoard::ballot);
        told("heap(0, 1, 0)", x -> x.heap(0, 1, 0));
        told("house(500)", x -> x.house(500));
    }
}
