import java.util.Random;

/** Long runs of drawn calls on the class and on PlainBoard, which must answer alike; the seeds are fixed. */
public final class RandomRunsTest {
    private static final int RUNS = 100;
    private static final int CALLS = 500;
    private static int wrong = 0;

    private final Random random;
    private final SchoolBoard board = new SchoolBoard();
    private final PlainBoard plain = new PlainBoard();
    private final StringBuilder story = new StringBuilder();
    private final int seed;
    private int calls;

    private RandomRunsTest(int seed) {
        this.seed = seed;
        random = new Random(seed);
    }

    public static void main(String[] args) {
        int first = args.length > 0 ? Integer.parseInt(args[0]) : 1;
        int many = args.length > 1 ? Integer.parseInt(args[1]) : RUNS;
        for (int seed = first; seed < first + many && wrong < 20; seed++) {
            new RandomRunsTest(seed).run();
        }
        System.out.println(wrong == 0 ? many + " runs answer alike" : wrong + " runs do not answer alike");
        if (wrong != 0) {
            System.exit(1);
        }
    }

    private int below(int n) {
        return random.nextInt(n);
    }

    private boolean same(String call, long got, long want) {
        calls++;
        story.append("x.").append(call).append("; // ").append(got).append('\n');
        if (got == want) {
            return true;
        }
        wrong++;
        System.out.println("seed " + seed + ": " + call + " answered " + got + ", due is " + want);
        if (System.getProperty("story") != null) {
            System.out.println(story);
        }
        return false;
    }

    private boolean same(String call, boolean got, boolean want) {
        return same(call, got ? 1L : 0L, want ? 1L : 0L);
    }

    private void run() {
        boolean isGood = begin();
        while (isGood && calls < CALLS) {
            isGood = below(5) < 3 ? tell() : below(4) == 0 ? askRest() : ask();
        }
    }

    private boolean begin() {
        boolean isGood = true;
        int many = 1 + below(8);
        for (int i = 0; i < many && isGood; i++) {
            isGood = tellChild();
        }
        for (int i = below(4); i >= 0 && isGood; i--) {
            isGood = tellSchool();
        }
        for (int i = below(3); i > 0 && isGood; i--) {
            isGood = tellAct();
        }
        for (int i = 0; i < many && isGood; i++) {
            isGood = tellEntry();
        }
        return isGood;
    }

    // ---- what may be asked for: mostly there, now and then beyond its bounds

    private int odd() {
        int[] far = {-1, -2, 0, 799, 800, 8, 40, Integer.MAX_VALUE, Integer.MIN_VALUE, 10, 49, 61, 101};
        return far[below(far.length)];
    }

    private int upTo(int most) {
        return below(60) == 0 ? odd() : most < 0 ? below(3) - 1 : below(most + 1);
    }

    private int aChild() {
        return upTo(plain.count(1) - 1);
    }

    private int aSchool() {
        return upTo(plain.count(2) - 1);
    }

    private int today() {
        return plain.count(0);
    }

    private int aDay() {
        return below(3) == 0 ? upTo(799) : upTo(Math.min(799, today() + 5));
    }

    private int aKnown() {
        return below(3) == 0 ? upTo(today()) : upTo(0) == 0 ? today() : upTo(799);
    }

    private int aYear() {
        return below(3) == 0 ? upTo(7) : today() / 100;
    }

    // ---- tellings

    private boolean tellChild() {
        int born = below(30) == 0 ? odd() : today() - below(1500 + today());
        int street = upTo(9);
        int standard = upTo(6);
        return same("child(" + born + ", " + street + ", " + standard + ")",
                board.child(born, street, standard), plain.child(born, street, standard));
    }

    private boolean tellSchool() {
        int x = upTo(60);
        int y = upTo(60);
        int cubic = upTo(below(3) == 0 ? 9999 : 300);
        return same("school(" + x + ", " + y + ", " + cubic + ")", board.school(x, y, cubic), plain.school(x, y, cubic));
    }

    private boolean tellEntry() {
        int child = aChild();
        int school = below(8) == 0 ? -1 : aSchool();
        int day = below(3) == 0 ? today() : upTo(today());
        return same("enter(" + child + ", " + school + ", " + day + ")",
                board.enter(child, school, day), plain.enter(child, school, day));
    }

    private boolean tellMark() {
        int child = aChild();
        int from = upTo(today());
        int half = upTo(1);
        int to = below(4) == 0 ? upTo(today()) : Math.min(today(), from + below(30));
        int toHalf = upTo(1);
        int what = upTo(3);
        return same("mark(" + child + ", " + from + ", " + half + ", " + to + ", " + toHalf + ", " + what + ")",
                board.mark(child, from, half, to, toHalf, what), plain.mark(child, from, half, to, toHalf, what));
    }

    private boolean tellSpan() {
        int child = aChild();
        int what = upTo(2);
        int kind = upTo(5);
        int from = aDay();
        int to = below(6) == 0 ? aDay() : from + below(60);
        return same("grantSpan(" + child + ", " + what + ", " + kind + ", " + from + ", " + to + ")",
                board.grantSpan(child, what, kind, from, to), plain.grantSpan(child, what, kind, from, to));
    }

    private boolean tellResult() {
        int child = aChild();
        int year = upTo(today() / 100);
        int subject = upTo(5);
        int mark = upTo(100);
        return same("result(" + child + ", " + year + ", " + subject + ", " + mark + ")",
                board.result(child, year, subject, mark), plain.result(child, year, subject, mark));
    }

    private boolean tellShut() {
        int school = aSchool();
        int from = aDay();
        int to = below(6) == 0 ? aDay() : from + below(20);
        return same("shut(" + school + ", " + from + ", " + to + ")",
                board.shut(school, from, to), plain.shut(school, from, to));
    }

    private boolean tellDay() {
        int day = below(12) == 0 ? upTo(today()) : today() + below(below(4) == 0 ? 120 : 30);
        return same("day(" + day + ")", board.day(day), plain.day(day));
    }

    private boolean tellAct() {
        String text = new ActMaker(random).make();
        byte[] bytes = new byte[(text.length() + 19) / 20 * 20];
        for (int i = 0; i < bytes.length; i++) {
            bytes[i] = (byte) (i < text.length() ? text.charAt(i) : below(2) == 0 ? ' ' : ';');
        }
        for (int i = 0; i < bytes.length; i += 20) {
            int[] five = new int[5];
            for (int j = 0; j < 20; j++) {
                five[j / 4] = five[j / 4] << 8 | bytes[i + j] & 255;
            }
            String call = "feed(" + five[0] + ", " + five[1] + ", " + five[2] + ", " + five[3] + ", " + five[4] + ")";
            if (!same(call, board.feed(five[0], five[1], five[2], five[3], five[4]),
                    plain.feed(five[0], five[1], five[2], five[3], five[4]))) {
                return false;
            }
        }
        int n = below(15) == 0 ? upTo(plain.count(12)) : Math.min(text.length(), plain.count(12));
        int year = below(12) == 0 ? upTo(7) : below(2) == 0 ? today() / 100 : today() / 100 + below(3);
        boolean isGood = same("act(" + n + ", " + year + ")", board.act(n, year), plain.act(n, year))
                && same("fault()", board.fault(), plain.fault());
        for (int told = 0; isGood && told < 8; told++) {
            isGood = sameCode(told);
        }
        return isGood;
    }

    /** The whole CODE of a YEAR; it isn't counted among the calls. */
    private boolean sameCode(int year) {
        int before = calls;
        int length = plain.written(year, -1);
        boolean isGood = same("written(" + year + ", -1)", board.written(year, -1), length);
        for (int i = 0; isGood && i <= length; i += 1 + below(5)) {
            isGood = same("written(" + year + ", " + i + ")", board.written(year, i), plain.written(year, i));
        }
        int clauses = plain.clause(year, -1, 0);
        isGood = isGood && same("clause(" + year + ", -1, 0)", board.clause(year, -1, 0), clauses);
        for (int k = 0; isGood && k <= clauses; k++) {
            for (int what = 0; isGood && what < 3; what++) {
                isGood = same("clause(" + year + ", " + k + ", " + what + ")",
                        board.clause(year, k, what), plain.clause(year, k, what));
            }
        }
        calls = before;
        return isGood;
    }

    private boolean tellTeacher() {
        if (below(4) == 0) {
            int school = aSchool();
            return same("teacher(" + school + ")", board.teacher(school), plain.teacher(school));
        }
        int teacher = upTo(plain.count(6) - 1);
        int year = below(2) == 0 ? aYear() : upTo(today() / 100);
        int mark = upTo(100);
        return same("proof(" + teacher + ", " + year + ", " + mark + ")",
                board.proof(teacher, year, mark), plain.proof(teacher, year, mark));
    }

    private boolean tellPlaces() {
        int x = upTo(60);
        int y = upTo(60);
        int street = upTo(9);
        int child = aChild();
        switch (below(4)) {
            case 0: return same("street(" + street + ", " + x + ", " + y + ")",
                    board.street(street, x, y), plain.street(street, x, y));
            case 1: return same("moves(" + child + ", " + street + ")",
                    board.moves(child, street), plain.moves(child, street));
            case 2: return same("site(" + x + ", " + y + ")", board.site(x, y), plain.site(x, y));
            default:
                int value = upTo(500);
                return same("house(" + value + ")", board.house(value), plain.house(value));
        }
    }

    private boolean tellVotes() {
        switch (below(20)) {
            case 0:
                int seats = upTo(9);
                return same("poll(" + seats + ")", board.poll(seats), plain.poll(seats));
            case 1: case 2: case 3:
                int party = upTo(3);
                return same("candidate(" + party + ")", board.candidate(party), plain.candidate(party));
            case 4: case 5: case 6: case 7:
                return same("ballot()", board.ballot(), plain.ballot());
            default:
                int ballot = upTo(plain.count(10) - 1);
                int candidate = upTo(plain.count(9) - 1);
                int votes = upTo(below(3) == 0 ? 9 : 3);
                return same("heap(" + ballot + ", " + candidate + ", " + votes + ")",
                        board.heap(ballot, candidate, votes), plain.heap(ballot, candidate, votes));
        }
    }

    private boolean tellEstimate() {
        int child = aChild();
        int subject = upTo(5);
        int mark = below(12) == 0 ? -1 : upTo(100);
        return same("estimate(" + child + ", " + subject + ", " + mark + ")",
                board.estimate(child, subject, mark), plain.estimate(child, subject, mark));
    }

    private boolean tellPay() {
        int child = aChild();
        int pence = upTo(9999);
        return same("pay(" + child + ", " + pence + ")", board.pay(child, pence), plain.pay(child, pence));
    }

    private boolean tellUndo() {
        int number = upTo(plain.count(3) - 1);
        return same("undo(" + number + ")", board.undo(number), plain.undo(number));
    }

    private boolean tell() {
        switch (below(40)) {
            case 0: return tellChild();
            case 1: return tellSchool();
            case 2: case 3: case 4: return tellEntry();
            case 5: return tellShut();
            case 6: case 7: return tellDay();
            case 8: return tellAct();
            case 9: return tellTeacher();
            case 10: case 11: return tellPlaces();
            case 12: case 13: case 14: case 15: case 16: return tellVotes();
            case 17: case 18: case 19: case 20: case 21: return tellEstimate();
            case 22: return tellPay();
            case 23: case 24: return tellUndo();
            case 25: case 26: case 27: return tellSpan();
            case 28: case 29: case 30: case 31: return tellResult();
            default: return tellMark();
        }
    }

    // ---- questions

    private boolean ask() {
        int child = aChild();
        int school = aSchool();
        int day = aDay();
        int half = upTo(1);
        int year = aYear();
        int code = below(2) == 0 ? year : upTo(7);
        int known = aKnown();
        switch (below(12)) {
            case 0: return same("on(" + child + ", " + day + ", " + known + ")",
                    board.on(child, day, known), plain.on(child, day, known));
            case 1: return same("marked(" + child + ", " + day + ", " + half + ", " + known + ")",
                    board.marked(child, day, half, known), plain.marked(child, day, half, known));
            case 2: return same("quarters(" + child + ", " + day + ", " + half + ", " + code + ", " + known + ")",
                    board.quarters(child, day, half, code, known), plain.quarters(child, day, half, code, known));
            case 3: return same("yearly(" + child + ", " + year + ", " + code + ", " + known + ")",
                    board.yearly(child, year, code, known), plain.yearly(child, year, code, known));
            case 4: return same("standard(" + child + ", " + year + ", " + known + ")",
                    board.standard(child, year, known), plain.standard(child, year, known));
            case 5: return same("passes(" + child + ", " + year + ", " + code + ", " + known + ")",
                    board.passes(child, year, code, known), plain.passes(child, year, code, known));
            case 6: return sameGrant(school, year, code, known);
            case 7: return sameFees(child, day);
            case 8: return sameEntering(school, upTo(below(2) == 0 ? 200 : 20));
            case 9: return sameOfficer(upTo(below(2) == 0 ? 2000 : 200));
            case 10: return sameSites(upTo(120));
            default: return sameVotes();
        }
    }

    private boolean sameGrant(int school, int year, int code, int known) {
        String of = school + ", " + year + ", " + code + ", " + known;
        boolean isGood = true;
        for (int what = -1; isGood && what <= 6; what++) {
            isGood = same("grant(" + of + ", " + what + ")",
                    board.grant(school, year, code, known, what), plain.grant(school, year, code, known, what));
        }
        int lines = plain.grant(school, year, code, known, 5);
        for (int i = 0; isGood && i < 6; i++) {
            int k = i == 0 ? lines - 1 : i == 1 ? lines : upTo(lines);
            int what = upTo(2);
            isGood = same("line(" + of + ", " + k + ", " + what + ")",
                    board.line(school, year, code, known, k, what), plain.line(school, year, code, known, k, what));
        }
        return isGood;
    }

    private boolean sameFees(int child, int day) {
        boolean isGood = true;
        for (int what = 0; isGood && what < 3; what++) {
            isGood = same("fees(" + child + ", " + day + ", " + what + ")",
                    board.fees(child, day, what), plain.fees(child, day, what));
        }
        return isGood;
    }

    private boolean sameEntering(int school, int hours) {
        boolean isGood = true;
        for (int what = 0; isGood && what < 14; what += what == 3 ? 7 : 1) {
            isGood = same("entering(" + school + ", " + hours + ", " + what + ")",
                    board.entering(school, hours, what), plain.entering(school, hours, what));
        }
        int what = 10 + upTo(plain.count(1));
        return isGood && same("entering(" + school + ", " + hours + ", " + what + ")",
                board.entering(school, hours, what), plain.entering(school, hours, what));
    }

    private boolean sameOfficer(int minutes) {
        boolean isGood = true;
        for (int what = 0; isGood && what < 4; what++) {
            isGood = same("officer(" + minutes + ", " + what + ")",
                    board.officer(minutes, what), plain.officer(minutes, what));
        }
        int what = 10 + upTo(10);
        return isGood && same("officer(" + minutes + ", " + what + ")",
                board.officer(minutes, what), plain.officer(minutes, what));
    }

    private boolean sameSites(int walk) {
        boolean isGood = true;
        for (int what = 0; isGood && what < 3; what++) {
            isGood = same("sites(" + walk + ", " + what + ")", board.sites(walk, what), plain.sites(walk, what));
        }
        return isGood;
    }

    private boolean sameVotes() {
        boolean isGood = true;
        for (int party = -1; isGood && party <= 4; party++) {
            isGood = same("sure(" + party + ")", board.sure(party), plain.sure(party));
        }
        int candidate = upTo(plain.count(9) - 1);
        for (int what = 0; isGood && what < 4; what++) {
            isGood = same("candidateOf(" + candidate + ", " + what + ")",
                    board.candidateOf(candidate, what), plain.candidateOf(candidate, what));
        }
        return isGood;
    }

    private boolean askRest() {
        int year = aYear();
        switch (below(6)) {
            case 0:
                int number = upTo(plain.count(3));
                int of = upTo(4);
                return same("book(" + number + ", " + of + ")", board.book(number, of), plain.book(number, of));
            case 1:
                int school = aSchool();
                return same("holds(" + school + ", " + year + ")", board.holds(school, year), plain.holds(school, year));
            case 2:
                int teacher = upTo(plain.count(6) - 1);
                int what = upTo(2);
                return same("teacherOf(" + teacher + ", " + year + ", " + what + ")",
                        board.teacherOf(teacher, year, what), plain.teacherOf(teacher, year, what));
            case 3:
                return sameRate(upTo(below(2) == 0 ? 9999999 : 50000));
            case 4:
                int i = upTo(400);
                return same("written(" + year + ", " + i + ")", board.written(year, i), plain.written(year, i));
            default:
                int counted = upTo(13);
                return same("count(" + counted + ")", board.count(counted), plain.count(counted));
        }
    }

    private boolean sameRate(int pence) {
        boolean isGood = true;
        for (int what = 0; isGood && what < 3; what++) {
            isGood = same("rate(" + pence + ", " + what + ")", board.rate(pence, what), plain.rate(pence, what));
        }
        int what = 10 + upTo(plain.count(8));
        return isGood && same("rate(" + pence + ", " + what + ")", board.rate(pence, what), plain.rate(pence, what));
    }
}
