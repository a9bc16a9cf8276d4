import java.util.ArrayList;
import java.util.List;

/** What a board answers to some 160 questions, and a board on which all of them have something to tell. */
final class State {
    private final SchoolBoard x;
    private final List<String> rows = new ArrayList<>();

    private State(SchoolBoard x) {
        this.x = x;
    }

    static List<String> of(SchoolBoard x) {
        State state = new State(x);
        state.counted();
        state.booked();
        state.children();
        state.schools();
        state.code();
        state.chosen();
        return state.rows;
    }

    private void row(String call, int answer) {
        rows.add(call + " = " + answer);
    }

    private void counted() {
        for (int what = 0; what <= 12; what++) {
            row("count(" + what + ")", x.count(what));
        }
        row("fault()", x.fault());
    }

    private void booked() {
        int size = x.count(3);
        for (int n = 0; n <= size; n++) {
            if (n < 3 || n > size - 3) {
                for (int what = 0; what < 4; what++) {
                    row("book(" + n + ", " + what + ")", x.book(n, what));
                }
            }
        }
    }

    private void children() {
        int today = x.count(0);
        int year = today / 100;
        int last = x.count(1) - 1;
        for (int child = 0; child <= last; child++) {
            if (child > 1 && child < last) {
                continue;
            }
            row("on(" + child + ", 0)", x.on(child, 0, today));
            row("on(" + child + ", TODAY)", x.on(child, today, today));
            row("marked(" + child + ", 0, 0)", x.marked(child, 0, 0, today));
            row("marked(" + child + ", TODAY, 1)", x.marked(child, today, 1, today));
            row("yearly(" + child + ")", x.yearly(child, year, year, today));
            row("standard(" + child + ", 7)", x.standard(child, 7, today));
            row("passes(" + child + ")", x.passes(child, year, year, today));
            row("FEES of " + child, x.fees(child, 799, 0));
            row("PAID of " + child, x.fees(child, 799, 1));
        }
    }

    private void schools() {
        int today = x.count(0);
        int year = today / 100;
        for (int school = 0; school < Math.min(2, x.count(2)); school++) {
            for (int what = 0; what < 6; what++) {
                row("grant(" + school + ", " + what + ")", x.grant(school, year, year, today, what));
            }
            for (int k = 0; k < 3; k++) {
                row("line(" + school + ", " + k + ")", x.line(school, year, year, today, k, 2));
            }
            row("holds(" + school + ")", x.holds(school, year));
        }
        for (int what = 0; what < 2; what++) {
            row("teacherOf(0, " + what + ")", x.teacherOf(0, 7, what));
            row("teacherOf(the last, " + what + ")", x.teacherOf(x.count(6) - 1, 7, what));
        }
    }

    private void code() {
        for (int year = 0; year < 8; year += 7) {
            int length = x.written(year, -1);
            row("written(" + year + ", -1)", length);
            for (int i = 0; i < 4; i++) {
                row("written(" + year + "), part " + i, x.written(year, length * i / 4));
            }
            row("clause(" + year + ", -1)", x.clause(year, -1, 0));
            row("clause(" + year + ", 0, 0)", x.clause(year, 0, 0));
            row("clause(" + year + ", 9, 1)", x.clause(year, 9, 1));
        }
    }

    private void chosen() {
        for (int what = 0; what < 13; what++) {
            if (what < 3 || what > 9) {
                row("entering(0, 50, " + what + ")", x.entering(0, 50, what));
            }
        }
        for (int what = 0; what < 20; what++) {
            if (what < 3 || what > 9) {
                row("officer(300, " + what + ")", x.officer(300, what));
            }
        }
        row("sites(11, 0)", x.sites(11, 0));
        row("sites(11, 1)", x.sites(11, 1));
        row("sites(120, 0)", x.sites(120, 0));
        for (int candidate = 0; candidate < 2; candidate++) {
            for (int what = 0; what < 3; what++) {
                row("candidateOf(" + candidate + ", " + what + ")", x.candidateOf(candidate, what));
            }
        }
        row("sure(0)", x.sure(0));
        row("sure(1)", x.sure(1));
        row("rate(700, 0)", x.rate(700, 0));
        row("rate(700, 1)", x.rate(700, 1));
        row("rate(700, 11)", x.rate(700, 11));
    }

    /** TODAY is 110; SCHOOL 0 is full; number 9 is UNDONE; the latest act() was a FAULT; 20 bytes are on the tape. */
    static SchoolBoard board() {
        SchoolBoard x = new SchoolBoard();
        Checks.act(x, 0, "clause 1:count present as 2;clause 2:count late as 1;clause 3:excuse 1 as 1;clause 4:attend 10;"
                + "clause 5:pass 0 needs 40;clause 6:rise 1;clause 7:grant 30 per head;clause 8:grant 20 per pass 0;"
                + "clause 9:grant 7 per child;clause 10:cap 90;clause 11:fee 3;clause 12:half if age>8;clause 13:room 50;"
                + "clause 14:staff 2;clause 15:step 30;clause 16:pay 1 is 50;clause 17:pay 2 is 60;clause 18:teach 0 is 2;"
                + "clause 19:small 20;");
        Checks.act(x, 1, "omit 10;");
        x.day(110);
        people(x);
        told(x);
        chosenFrom(x);
        Checks.act(x, 1, "clause 1:cap;");
        Checks.feed(x, "clause 60:half;");
        return x;
    }

    private static void people(SchoolBoard x) {
        x.child(-700, 0, 2);
        x.child(-900, 1, 3);
        x.child(-1200, 2, 0);
        x.school(5, 5, 100);
        x.school(20, 0, 400);
        x.street(0, 3, 4);
        x.street(1, 10, 0);
        x.street(2, 30, 30);
        x.teacher(0);
        x.proof(0, 1, 40);
        x.pay(0, 25);
    }

    private static void told(SchoolBoard x) {
        x.enter(0, 0, 0);
        x.enter(1, 0, 0);
        x.enter(2, 1, 0);
        x.shut(0, 105, 106);
        x.mark(0, 0, 0, 109, 1, 1);
        x.mark(1, 100, 1, 110, 1, 2);
        x.grantSpan(1, 0, 1, 0, 199);
        x.grantSpan(1, 1, 0, 100, 199);
        x.grantSpan(2, 2, 0, 100, 120);
        x.result(2, 0, 0, 90);
        x.result(0, 1, 0, 55);
        x.undo(9);
        x.estimate(0, 0, 60);
        x.estimate(1, 0, 70);
    }

    private static void chosenFrom(SchoolBoard x) {
        x.site(30, 20);
        x.house(10);
        x.house(30);
        x.poll(3);
        x.candidate(0);
        x.candidate(1);
        x.ballot();
        x.heap(0, 0, 1);
        x.heap(0, 1, 2);
    }
}
