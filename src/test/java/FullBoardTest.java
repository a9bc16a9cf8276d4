import java.util.function.IntBinaryOperator;

/** Boards that are as full as the document lets them be, beside PlainBoard. */
public final class FullBoardTest {
    private static final Checks c = new Checks();
    private static final SchoolBoard board = new SchoolBoard();
    private static final PlainBoard plain = new PlainBoard();

    public static void main(String[] args) {
        c.of("a full board");
        people();
        acts();
        told();
        questions();
        scatter();
        questions();
        c.end();
    }

    private static void people() {
        for (int i = 0; i < 41; i++) {
            c.due("child", plain.child(-1500 + 31 * i, i % 10, i % 7), board.child(-1500 + 31 * i, i % 10, i % 7));
        }
        for (int i = 0; i < 7; i++) {
            c.due("school", plain.school(i * 10, 60 - i * 9, 9999), board.school(i * 10, 60 - i * 9, 9999));
        }
        for (int i = 0; i < 21; i++) {
            c.due("teacher", plain.teacher(i % 6), board.teacher(i % 6));
        }
        for (int i = 0; i < 11; i++) {
            c.due("site", plain.site(i * 6, i * 5 % 61), board.site(i * 6, i * 5 % 61));
            c.due("street", plain.street(i, 60 - i * 5, i * 6) ? 1 : 0, board.street(i, 60 - i * 5, i * 6) ? 1 : 0);
        }
        for (int i = 0; i < 40; i++) {
            c.due("enter", plain.enter(i, 0, 0), board.enter(i, 0, 0));
        }
    }

    private static void act(String text) {
        Checks.feed(board, text);
        for (int i = 0; i < text.length(); i += 20) {
            int[] five = new int[5];
            for (int j = 0; j < 20; j++) {
                five[j / 4] = five[j / 4] << 8 | (i + j < text.length() ? text.charAt(i + j) : ' ');
            }
            plain.feed(five[0], five[1], five[2], five[3], five[4]);
        }
        c.due("act", plain.act(text.length(), 0), board.act(text.length(), 0));
    }

    private static void acts() {
        StringBuilder text = new StringBuilder();
        for (int number = 1; number <= 45; number++) {
            String per = number % 9 == 0 ? "child" : number % 10 == 0 ? "head" : "pass " + number % 6;
            text.append("clause ").append(number).append(":grant ").append(number * 3).append(" per ").append(per).append(';');
            if (number % 15 == 0) {
                act(text.toString());
                text.setLength(0);
            }
        }
        for (int subject = 0; subject < 6; subject++) {
            text.append("clause 5").append(subject).append(":pass ").append(subject).append(" needs 2").append(subject).append(';');
            text.append("clause 4").append(6 + subject % 4).append(":teach ").append(subject).append(" is ").append(subject * 2).append(';');
        }
        text.append("clause 56:count present as 2;clause 57:rise 1 if age<12;clause 58:cap 999;clause 59:staff 3;clause 60:small 9;");
        act(text.toString());
    }

    private static void told() {
        for (int year = 0; year < 2; year++) {
            c.due("day", plain.day(year * 100 + 99) ? 1 : 0, board.day(year * 100 + 99) ? 1 : 0);
            for (int i = 0; i < 40; i++) {
                int from = year * 100 + i;
                int to = year * 100 + 99 - i % 7;
                c.due("mark", plain.mark(i, from, 0, to, 1, 1), board.mark(i, from, 0, to, 1, 1));
                c.due("result", plain.result(i, year, i % 6, 17 + i), board.result(i, year, i % 6, 17 + i));
                int subject = (i + year * 2) % 6;
                c.due("result", plain.result(i, year, subject, 90 - i), board.result(i, year, subject, 90 - i));
                c.due("estimate", plain.estimate(i, subject, 60 - i) ? 1 : 0, board.estimate(i, subject, 60 - i) ? 1 : 0);
            }
        }
        for (int i = 0; i < 41; i++) {
            c.due("house", plain.house(1 + i * 12), board.house(1 + i * 12));
        }
    }

    private static void each(String call, int many, IntBinaryOperator got, IntBinaryOperator want, int of) {
        for (int what = 0; what < many; what++) {
            c.due(call + " of " + of + ", " + what, want.applyAsInt(of, what), got.applyAsInt(of, what));
        }
    }

    private static void scatter() {
        for (int i = 30; i < 40; i++) {
            int day = 101 + i;
            int to = i % 6;
            c.due("enter", plain.enter(i, to, day), board.enter(i, to, day));
        }
    }

    private static void questions() {
        for (int school = 0; school < 6; school++) {
            each("grant", 6, (s, w) -> board.grant(s, 1, 0, 199, w), (s, w) -> plain.grant(s, 1, 0, 199, w), school);
            each("grant of 0", 6, (s, w) -> board.grant(s, 0, 0, 199, w), (s, w) -> plain.grant(s, 0, 0, 199, w), school);
        }
        int lines = plain.grant(0, 1, 0, 199, 5);
        c.due("many LINES", 1, lines > 300 ? 1 : 0);
        for (int k = lines - 2; k <= lines; k++) {
            each("line", 3, (n, w) -> board.line(0, 1, 0, 199, n, w), (n, w) -> plain.line(0, 1, 0, 199, n, w), k);
        }
        for (int child = 0; child < 40; child += 3) {
            each("standard", 8, (n, w) -> board.standard(n, w, 199), (n, w) -> plain.standard(n, w, 199), child);
        }
        each("entering", 3, (n, w) -> board.entering(0, n, w), (n, w) -> plain.entering(0, n, w), 200);
        each("entering", 3, (n, w) -> board.entering(0, n, w), (n, w) -> plain.entering(0, n, w), 37);
        each("entering's sets", 40, (n, w) -> board.entering(0, n, 10 + w), (n, w) -> plain.entering(0, n, 10 + w), 37);
        each("officer", 3, board::officer, plain::officer, 150);
        each("officer", 3, board::officer, plain::officer, 300);
        each("officer's streets", 10, (n, w) -> board.officer(n, 10 + w), (n, w) -> plain.officer(n, 10 + w), 0);
        for (int walk = 0; walk <= 120; walk += 5) {
            each("sites", 2, board::sites, plain::sites, walk);
        }
        for (int pence = 0; pence < 5000000; pence += 333333) {
            each("rate", 50, board::rate, plain::rate, pence);
        }
    }
}
