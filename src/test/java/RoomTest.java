import com.sun.management.ThreadMXBean;
import java.lang.management.ManagementFactory;

/** All calls of a run live in one room: none but act() makes anything, and what it and the constructor make is small. */
public final class RoomTest {
    // What 512 calls may make in all: 600,000 objects and arrays, 7,300,000 fields and elements.
    private static final long ROOM = 7_300_000;
    private static final int CALLS = 512;
    private static final int TAPE = 800;
    // Asking what was made makes a little itself: less than the smallest object by each of so many turns.
    private static final int TURNS = 40;
    private static final int SMALLEST = 16;
    private static final ThreadMXBean THREADS = (ThreadMXBean) ManagementFactory.getThreadMXBean();
    private static final Checks c = new Checks();
    private static long answers;

    public static void main(String[] args) {
        // What the machine makes itself as a call is made for the first time isn't the board's.
        SchoolBoard first = full();
        for (Checks.Call call : CALLS_BUT_ACT) {
            madeByTurns(first, call);
        }
        nothingMade();
        littleMade();
        c.end();
    }

    private static final Checks.Call[] CALLS_BUT_ACT = {
        x -> Checks.bit(x.day(150)), x -> x.child(0, 0, 0), x -> x.school(0, 0, 0), x -> Checks.bit(x.street(0, 1, 1)),
        x -> Checks.bit(x.moves(0, 1)), x -> x.enter(0, 1, 150), x -> x.shut(0, 0, 799), x -> x.mark(0, 0, 0, 150, 1, 2),
        x -> x.grantSpan(0, 0, 5, 0, 799), x -> x.grantSpan(0, 1, 0, 0, 799), x -> x.grantSpan(0, 2, 0, 0, 799),
        x -> x.result(0, 1, 5, 100), x -> Checks.bit(x.undo(0)), x -> x.book(0, 3), x -> x.on(0, 150, 150),
        x -> x.marked(0, 150, 1, 150), x -> x.quarters(0, 150, 1, 0, 150), x -> x.yearly(0, 1, 0, 150),
        x -> x.standard(0, 7, 150), x -> x.passes(0, 0, 0, 150), x -> x.grant(0, 0, 0, 150, 4),
        x -> x.line(1, 1, 0, 150, 0, 2), x -> x.fees(0, 799, 0), x -> x.pay(0, 1), x -> x.holds(0, 0), x -> x.teacher(0),
        x -> Checks.bit(x.proof(0, 1, 50)), x -> x.teacherOf(0, 7, 1), x -> x.feed(1, 2, 3, 4, 5), SchoolBoard::fault,
        x -> x.written(0, -1), x -> x.written(0, 100), x -> x.clause(0, 3, 1), x -> Checks.bit(x.estimate(0, 0, 9)),
        x -> x.entering(0, 200, 0), x -> x.officer(2000, 0), x -> x.site(0, 0), x -> x.sites(120, 1),
        x -> Checks.bit(x.poll(9)), x -> x.candidate(3), SchoolBoard::ballot, x -> x.heap(0, 0, 9),
        x -> x.candidateOf(0, 2), x -> x.sure(3), x -> x.house(500), x -> x.rate(100000, 0), x -> x.count(12)
    };

    private static long madeSoFar() {
        return THREADS.getCurrentThreadAllocatedBytes();
    }

    private static void nothingMade() {
        c.of("1 to 46, the room: no call but act() makes anything");
        SchoolBoard x = full();
        for (int i = 0; i < CALLS_BUT_ACT.length; i++) {
            c.due("objects made by call " + i, 0, madeByTurns(x, CALLS_BUT_ACT[i]) / (TURNS * SMALLEST));
        }
    }

    private static long madeByTurns(SchoolBoard x, Checks.Call call) {
        long before = madeSoFar();
        for (int turn = 0; turn < TURNS; turn++) {
            answers += call.of(x);
        }
        return madeSoFar() - before;
    }

    private static void littleMade() {
        c.of("1 to 46, the room: 512 calls' worth of what the constructor and act() make");
        long before = madeSoFar();
        SchoolBoard x = new SchoolBoard();
        long board = madeSoFar() - before;
        // So many ACTS can be fed and taken; a byte is never more than one field or element.
        int acts = CALLS / (TAPE / 20 + 1);
        c.yes("an ACT of all kinds", board + acts * actMade(x, all()) < ROOM);
        c.yes("an ACT of the longest IF", board + acts * actMade(x, "clause 1:half if not age<1" + " or day=1".repeat(80) + ";") < ROOM);
        c.yes("a FAULT", board + acts * actMade(x, "omit 1;".repeat(41)) < ROOM);
        // An ACT without a statement needs no tape, so all calls might be that.
        c.yes("an empty ACT", board + CALLS * actMade(x, "") < ROOM);
    }

    private static long actMade(SchoolBoard x, String text) {
        Checks.feed(x, text);
        long before = madeSoFar();
        answers += x.act(text.length(), 7);
        return madeSoFar() - before;
    }

    private static String all() {
        return "clause 1:count present as 2;clause 2:excuse 0 as 2 if not(age<3 or poor=1);clause 3:attend 0;clause 4:pass 0 needs 0;"
                + "clause 5:rise 1;clause 6:grant 9 per head;clause 7:grant 9 per child;clause 8:grant 9 per pass 0 if passes>0;"
                + "clause 9:cap 999;clause 10:fee 2 if age<12 and not timer=1;clause 11:half;clause 12:room 1;clause 13:staff 30;"
                + "clause 14:step 10;clause 15:pay 1 is 20;clause 16:teach 0 is 2;clause 17:small 90;";
    }

    private static SchoolBoard full() {
        SchoolBoard x = Checks.board(30, 5);
        Checks.act(x, 0, all());
        x.poll(5);
        x.candidate(3);
        x.candidate(0);
        x.ballot();
        x.day(140);
        x.teacher(0);
        for (int child = 0; child < 30; child++) {
            x.enter(child, child % 2, 0);
            x.mark(child, 0, 0, 140, 1, 1);
            x.result(child, 0, 0, 9);
            x.estimate(child, 0, 9);
        }
        for (int i = 0; i < 8; i++) {
            x.site(i, i);
            x.house(40 * i + 1);
        }
        return x;
    }
}
