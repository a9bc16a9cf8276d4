import java.util.List;

/** Promises 28 to 32, sentence by sentence: the value at each edge, the one just inside it, the one just outside it. */
public final class CodeEdgesTest {
    private static final Checks c = new Checks();
    private static final List<String> NAMES = List.of("age", "standard", "day", "year", "half", "excused", "timer",
            "passes", "quarters", "subject", "mark", "poor");
    private static final List<String> BODIES = List.of("count", "excuse", "attend", "pass", "rise", "grant", "cap", "fee",
            "half", "room", "staff", "step", "pay", "teach", "small");
    private static final List<String> OTHERS = List.of("clause", "omit", "present", "late", "work", "as", "needs", "per",
            "head", "child", "is", "if", "or", "and", "not", ":", ";", "(", ")", "<", ">", "=",
            "absent", "a", "z", "clauses", "ands", "ifs", "A", "If", "-", ",", ".", "/", "0", "00", "0000", "1", "2",
            "3", "4", "5", "6", "0005", "0006", "59", "60", "61", "0060", "0061", "100", "9999", "10000", "00000", "00001", "99999");

    public static void main(String[] args) {
        feed();
        feedOrder();
        actAsTold();
        actEight();
        actOfFault();
        code();
        fault();
        faultByTokens();
        faultOfOpens();
        faultOfStatements();
        faultOfBytes();
        faultOfLongTokens();
        written();
        writtenGaps();
        writtenBrackets();
        clause();
        c.end();
    }

    private static SchoolBoard fed(int times) {
        SchoolBoard x = new SchoolBoard();
        for (int i = 0; i < times; i++) {
            x.feed(0x6f6d6974, 0x20313b20, 0x20202020, 0x20202020, 0x20202020);
        }
        return x;
    }

    private static void feed() {
        c.of("28 feed: twenty bytes behind those on the tape, how many there are");
        for (int times = 0; times < 40; times += 13) {
            c.due("behind " + 20 * times, 20 * times + 20, fed(times).feed(0, 0, 0, 0, 0));
        }
        c.of("28 feed: NONE, there would be more than 800");
        c.due("behind 760", 780, fed(38).feed(0, 0, 0, 0, 0));
        c.due("behind 780", 800, fed(39).feed(0, 0, 0, 0, 0));
        c.refused("behind 800", -1, () -> fed(40), x -> x.feed(-1, -1, -1, -1, -1));
        SchoolBoard full = fed(39);
        Checks.feed(full, "             omit 1;");
        full.feed(0, 0, 0, 0, 0);
        c.due("the bytes stay as they were", 0, full.act(800, 0));
        c.due("and there's place behind an ACT", 20, full.feed(0, 0, 0, 0, 0));
    }

    private static void feedOrder() {
        c.of("28 feed: of each number the highest byte first");
        for (int place = 0; place < 20; place++) {
            for (int bad = 0; bad < 256; bad += 85) {
                int[] five = {0x20202020, 0x20202020, 0x20202020, 0x20202020, 0x20202020};
                int shift = 24 - place % 4 * 8;
                five[place / 4] = five[place / 4] & ~(255 << shift) | bad << shift;
                SchoolBoard x = new SchoolBoard();
                x.feed(five[0], five[1], five[2], five[3], five[4]);
                x.act(20, 0);
                c.due("byte " + bad + " at " + place, place, x.fault());
            }
        }
        SchoolBoard x = new SchoolBoard();
        Checks.feed(x, "clause 1:pay 1 is 2;");
        c.due("twenty bytes", 0, x.act(20, 0));
        c.text("as they came", "clause 1:pay 1 is 2;", Checks.written(x, 0));
    }

    private static int act(String text, int n, int today, int year) {
        SchoolBoard x = new SchoolBoard();
        x.day(today);
        Checks.feed(x, text);
        return x.act(n, year);
    }

    private static void actAsTold() {
        c.of("29 act: -2, doing nothing: n is below 0 or more than there are");
        c.due("n 0 of 20", 0, act("omit 1;", 0, 0, 0));
        c.due("n 0 of none", 0, act("", 0, 0, 0));
        c.due("n 1 of none", -2, act("", 1, 0, 0));
        c.due("n 19 of 20", 0, act("omit 1;", 19, 0, 0));
        c.due("n 20 of 20", 0, act("omit 1;", 20, 0, 0));
        c.due("n 800 of 800", 0, fed(20).act(400, 0));
        c.refused("n -1", -2, State::board, x -> x.act(-1, 1));
        c.refused("n 21 of 20", -2, State::board, x -> x.act(21, 1));
        c.refused("n 801", -2, () -> fed(40), x -> x.act(801, 1));
        c.due("the last byte counts", -1, act("omit 1;omit 2;omit 3", 20, 0, 0));
        c.due("but not what's behind n", 0, act("omit 1;omit 2;omit 3", 14, 0, 0));
        c.of("29 act: the first n bytes alone, though n cuts a token");
        SchoolBoard cut = new SchoolBoard();
        Checks.feed(cut, "omit 61;");
        cut.act(6, 0);
        c.due("omit 6, more must come", 6, cut.fault());
        Checks.feed(cut, "omit 1;");
        cut.act(3, 0);
        c.due("omi, no such word", 0, cut.fault());
        Checks.feed(cut, "omit 1;omitx");
        c.due("up to the first ;", 0, cut.act(7, 0));
        Checks.feed(cut, "clause 1:cap 99999;");
        cut.act(17, 0);
        c.due("four digits of five, more must come", 17, cut.fault());
        Checks.feed(cut, "                omit");
        c.due("a text that ends with the tape's twenty bytes", -1, cut.act(20, 0));
        c.due("more must come, whatever was behind it once", 20, cut.fault());
        c.of("29 act: -2, doing nothing: YEAR ahead of TODAY's or above 7");
        c.due("YEAR 1 on 199", 0, act("omit 1;", 7, 199, 1));
        c.due("YEAR 1 on 200", -2, act("omit 1;", 7, 200, 1));
        c.due("YEAR 2 on 200", 0, act("omit 1;", 7, 200, 2));
        c.due("YEAR 7 on 0", 0, act("omit 1;", 7, 0, 7));
        c.due("YEAR 7 on 799", 0, act("omit 1;", 7, 799, 7));
        c.due("YEAR 6 on 799", -2, act("omit 1;", 7, 799, 6));
        c.due("YEAR 8 on 799", -2, act("omit 1;", 7, 799, 8));
        c.refused("YEAR 0 on 110", -2, State::board, x -> x.act(15, 0));
        c.refused("YEAR -1", -2, State::board, x -> x.act(15, -1));
        c.refused("YEAR 8", -2, State::board, x -> x.act(15, 8));
        c.of("29 act: the tape is empty then");
        SchoolBoard x = State.board();
        c.due("the tape", 20, x.count(12));
        c.due("its number", 2, x.act(15, 1));
        c.due("the tape", 0, x.count(12));
        c.due("one byte of none", -2, x.act(1, 1));
        SchoolBoard none = State.board();
        c.due("0 bytes of 20", 2, none.act(0, 1));
        c.due("the tape", 0, none.count(12));
    }

    private static SchoolBoard acts(int many) {
        SchoolBoard x = new SchoolBoard();
        for (int i = 0; i < many; i++) {
            Checks.act(x, 0, "clause " + (i + 1) + ":cap " + i + ";");
        }
        Checks.feed(x, "clause 9:cap 9;");
        return x;
    }

    private static void actEight() {
        c.of("29 act: -3, doing nothing: 8 are there");
        c.due("the seventh", 6, acts(6).act(15, 0));
        c.due("the eighth", 7, acts(7).act(15, 0));
        c.refused("the ninth", -3, () -> acts(8), x -> x.act(15, 0));
        c.refused("the ninth, a FAULT", -3, () -> acts(8), x -> x.act(14, 0));
        c.refused("the ninth, of no bytes", -3, () -> acts(8), x -> x.act(0, 0));
        c.refused("n beyond comes first", -2, () -> acts(8), x -> x.act(21, 0));
        c.of("29 act: 8 of 40 statements each");
        SchoolBoard all = new SchoolBoard();
        for (int i = 0; i < 8; i++) {
            StringBuilder text = new StringBuilder();
            for (int number = i + 1; number <= i + 40; number++) {
                text.append("clause").append(number).append(":cap 5;");
            }
            c.due("act " + i, i, Checks.act(all, 0, text.toString()));
            c.due("clauses by then", 40 + i, all.clause(0, -1, 0));
        }
        for (int k = 0; k < 47; k++) {
            c.due("NUMBER of " + k, k + 1, all.clause(0, k, 0));
            c.due("ACT of " + k, Math.min(k, 7), all.clause(0, k, 1));
        }
        c.of("29 act: FAULTS aren't among the 8");
        SchoolBoard x = acts(7);
        c.due("a FAULT", -1, x.act(14, 0));
        Checks.feed(x, "omit 1;");
        c.due("the eighth", 7, x.act(7, 0));
    }

    private static void actOfFault() {
        c.of("29 act: NONE: a FAULT");
        SchoolBoard x = State.board();
        SchoolBoard y = State.board();
        Checks.feed(x, "clause 1:half; clause 2:cap; clause 3:half;");
        int n = x.count(12);
        c.due("a FAULT in its middle", -1, x.act(n, 1));
        c.due("its place", 20 + 26 + 1, x.fault());
        c.due("no ACT", y.count(5), x.count(5));
        c.due("no bytes", 0, x.count(12));
        c.text("the CODE as it was, YEAR 1", Checks.written(y, 1), Checks.written(x, 1));
        c.text("the CODE as it was, YEAR 7", Checks.written(y, 7), Checks.written(x, 7));
    }

    private static SchoolBoard taken(Object... yearsAndTexts) {
        SchoolBoard x = new SchoolBoard();
        for (int i = 0; i < yearsAndTexts.length; i += 2) {
            Checks.act(x, (Integer) yearsAndTexts[i], (String) yearsAndTexts[i + 1]);
        }
        return x;
    }

    private static void code() {
        c.of("29 THE CODE of a YEAR: all ACTS in force by then");
        SchoolBoard x = taken(3, "clause 5:cap 3;", 7, "clause 6:cap 7;", 0, "clause 7:cap 0;");
        String[] due = {"", "", "", "clause 5:cap 3;", "clause 5:cap 3;", "clause 5:cap 3;", "clause 5:cap 3;",
            "clause 5:cap 3;clause 6:cap 7;"};
        for (int year = 0; year < 8; year++) {
            c.text("YEAR " + year, due[year] + "clause 7:cap 0;", Checks.written(x, year));
        }
        c.of("29 THE CODE: by the YEARS from which they are");
        SchoolBoard y = taken(2, "clause 1:cap 2;", 1, "clause 1:cap 1;");
        c.text("YEAR 0", "", Checks.written(y, 0));
        c.text("YEAR 1", "clause 1:cap 1;", Checks.written(y, 1));
        c.text("YEAR 2, though told ahead of it", "clause 1:cap 2;", Checks.written(y, 2));
        c.of("29 THE CODE: of one YEAR as they came");
        c.text("the second one's", "clause 1:cap 2;", Checks.written(taken(1, "clause 1:cap 1;", 1, "clause 1:cap 2;"), 1));
        c.text("omitted", "", Checks.written(taken(1, "clause 1:cap 1;", 1, "omit 1;"), 1));
        c.text("put there again", "clause 1:cap 3;",
                Checks.written(taken(1, "clause 1:cap 1;", 1, "omit 1;", 1, "clause 1:cap 3;"), 1));
        c.of("29 THE CODE: a clause puts its BODY in place of what was");
        c.text("within one ACT", "clause 1:cap 2;", Checks.written(taken(0, "clause 1:cap 1;clause 1:cap 2;"), 0));
        c.text("of another kind", "clause 1:half;", Checks.written(taken(0, "clause 1:cap 1;", 0, "clause 1:half;"), 0));
        c.of("29 THE CODE: an omit takes it away (if there is one)");
        c.text("none there", "clause 2:cap 2;", Checks.written(taken(0, "omit 1;clause 2:cap 2;omit 60;"), 0));
        c.text("the one ahead of it", "", Checks.written(taken(0, "clause 1:cap 1;omit 1;"), 0));
        c.text("not the one behind it", "clause 1:cap 1;", Checks.written(taken(0, "omit 1;clause 1:cap 1;"), 0));
        c.text("from a later YEAR on alone", "clause 1:cap 1;", Checks.written(taken(0, "clause 1:cap 1;", 1, "omit 1;"), 0));
        c.text("from that YEAR on", "", Checks.written(taken(0, "clause 1:cap 1;", 1, "omit 1;"), 1));
        c.text("the edges 1 and 60", "clause 2:half;clause 59:half;", Checks.written(
                taken(0, "clause 1:half;clause 60:half;clause 2:half;clause 59:half;", 0, "omit 60;omit 1;"), 0));
        c.text("one of YEAR 0 told behind one of YEAR 1", "clause 1:cap 1;",
                Checks.written(taken(1, "clause 1:cap 1;", 0, "clause 1:cap 0;omit 1;"), 1));
    }

    private static void fault() {
        c.of("30 fault: of the latest act() that was a number or NONE; NONE: it had none");
        SchoolBoard x = new SchoolBoard();
        c.due("no act() yet", -1, x.fault());
        c.due("-2 ahead of all", -2, x.act(1, 0));
        c.due("still none", -1, x.fault());
        Checks.act(x, 0, "clause 1:cap;");
        c.due("a FAULT", 12, x.fault());
        x.act(1, 0);
        c.due("-2 behind it", 12, x.fault());
        Checks.act(x, 0, "omit;");
        c.due("another FAULT", 4, x.fault());
        Checks.act(x, 0, "");
        c.due("an ACT without a FAULT", -1, x.fault());
        Checks.act(x, 0, "half");
        c.due("at its first byte", 0, x.fault());
        for (int i = 1; i < 8; i++) {
            Checks.act(x, 0, "");
        }
        Checks.act(x, 0, "omit");
        c.due("-3 behind the eighth", -1, x.fault());
    }

    /** Whether a token is one of those told; "0-5" has the numbers of one to four digits from 0 to 5. */
    private static boolean isAmong(String token, String allowed) {
        for (String each : allowed.split(" ")) {
            int dash = each.indexOf('-');
            boolean isNumber = dash > 0 && token.matches("[0-9]{1,4}");
            if (each.equals(token) || isNumber && Integer.parseInt(token) >= Integer.parseInt(each.substring(0, dash))
                    && Integer.parseInt(token) <= Integer.parseInt(each.substring(dash + 1))) {
                return true;
            }
        }
        return false;
    }

    private static void goesOn(String prefix, String allowed) {
        int place = prefix.length() + 1;
        boolean isWhole = prefix.isEmpty() || prefix.endsWith(";");
        c.due("[" + prefix + "] alone", isWhole ? -1 : prefix.length(), Checks.faultOf(prefix));
        for (List<String> tokens : List.of(NAMES, BODIES, OTHERS)) {
            for (String token : tokens) {
                String text = prefix + " " + token;
                int got = Checks.faultOf(text);
                if (!isAmong(token, allowed)) {
                    c.due("[" + text + "]", place, got);
                } else if (got != -1) {
                    c.due("[" + text + "] goes on", text.length(), got);
                }
            }
        }
    }

    private static void faultByTokens() {
        c.of("30 FAULT: the first token with which no such text goes on; the text's length, if more must come");
        String names = "not ( " + String.join(" ", NAMES);
        String cl = "clause 1:";
        String[][] rows = {
            {"", "clause omit"}, {"omit", "1-60"}, {"omit 1", ";"}, {"omit 1;", "clause omit"},
            {"clause", "1-60"}, {"clause 60", ":"}, {cl, String.join(" ", BODIES)}, {cl + "half;", "clause omit"},
            {cl + "count", "present late work"}, {cl + "count present", "as"}, {cl + "count late", "as"},
            {cl + "count work", "as"}, {cl + "count work as", "0-2"}, {cl + "count present as 0", "if ;"},
            {cl + "excuse", "0-5"}, {cl + "excuse 5", "as"}, {cl + "excuse 0 as", "0-2"}, {cl + "excuse 0 as 2", "if ;"},
            {cl + "attend", "0-9999"}, {cl + "attend 9999", "if ;"},
            {cl + "pass", "0-5"}, {cl + "pass 5", "needs"}, {cl + "pass 0 needs", "0-9999"}, {cl + "pass 0 needs 101", "if ;"},
            {cl + "rise", "0-9999"}, {cl + "rise 7", "if ;"},
            {cl + "grant", "0-9999"}, {cl + "grant 0", "per"}, {cl + "grant 1 per", "head child pass"},
            {cl + "grant 1 per head", "if ;"}, {cl + "grant 1 per child", "if ;"}, {cl + "grant 1 per pass", "0-5"},
            {cl + "grant 1 per pass 0", "if ;"},
            {cl + "cap", "0-9999"}, {cl + "cap 0", ";"}, {cl + "fee", "0-9999"}, {cl + "fee 0", "if ;"}, {cl + "half", "if ;"},
            {cl + "room", "0-9999"}, {cl + "room 0", ";"}, {cl + "staff", "0-9999"}, {cl + "staff 1", ";"},
            {cl + "step", "0-9999"}, {cl + "step 101", ";"}, {cl + "small", "0-9999"}, {cl + "small 501", ";"},
            {cl + "pay", "0-9999"}, {cl + "pay 6", "is"}, {cl + "pay 0 is", "0-9999"}, {cl + "pay 1 is 1", ";"},
            {cl + "teach", "0-5"}, {cl + "teach 5", "is"}, {cl + "teach 0 is", "0-9999"}, {cl + "teach 1 is 201", ";"},
            {cl + "half if", names}, {cl + "half if not", names}, {cl + "half if (", names}, {cl + "half if age<1 or", names},
            {cl + "half if age<1 and", names}, {cl + "half if not not (", names},
            {cl + "half if age<", "0-9999"}, {cl + "half if age>", "0-9999"}, {cl + "half if half=", "0-9999"},
            {cl + "half if age<1", "or and ;"}, {cl + "half if not age<1", "or and ;"}, {cl + "half if (age<1)", "or and ;"},
            {cl + "half if (age<1", "or and )"}, {cl + "half if ((age<1)", "or and )"}, {cl + "half if (not age<1", "or and )"},
            {cl + "half if not(age<1)", "or and ;"}, {cl + "half if (age<1 or age<2", "or and )"},
            {cl + "half if (age<1) and (age<2", "or and )"}, {cl + "half if age<1;", "clause omit"}};
        for (String[] row : rows) {
            goesOn(row[0], row[1]);
        }
        for (String name : NAMES) {
            goesOn(cl + "fee 1 if " + name, "< > =");
        }
        String[] withIf = {"count present as 1", "excuse 1 as 1", "attend 1", "pass 1 needs 1", "rise 1", "grant 1 per head",
            "grant 1 per child", "grant 1 per pass 1", "fee 1", "half"};
        for (String body : withIf) {
            c.due(body + " may ask", -1, Checks.faultOf(cl + body + " if age<1;"));
        }
    }

    private static void faultOfOpens() {
        c.of("30 FAULT: at most 10 of \"not\" and \"(\" are open in one another");
        String start = "clause 1:half if ";
        for (int bits = 0; bits < 1024; bits += 31) {
            StringBuilder opens = new StringBuilder();
            StringBuilder closes = new StringBuilder();
            for (int i = 0; i < 10; i++) {
                boolean isNot = (bits >> i & 1) == 1;
                opens.append(isNot ? "not " : "(");
                closes.append(isNot ? "" : ")");
            }
            String ten = opens.toString();
            int at = start.length() + ten.length();
            c.due("ten: " + ten, -1, Checks.faultOf(start + ten + "age<1" + closes + ";"));
            c.due("an eleventh (: " + ten, at, Checks.faultOf(start + ten + "(age<1)" + closes + ";"));
            c.due("an eleventh not: " + ten, at, Checks.faultOf(start + ten + "not age<1" + closes + ";"));
            c.due("ten and more to come: " + ten, at, Checks.faultOf(start + ten));
        }
        c.of("30 FAULT: what is closed isn't open");
        String nine = "(((((((((";
        String shut = ")))))))))";
        c.due("ten (, ten times", -1, Checks.faultOf(start + "(" + nine + "age<1" + shut + ")"
                + (" and (" + nine + "age<1" + shut + ")").repeat(9) + ";"));
        c.due("ten nots, ten times", -1, Checks.faultOf(start + "not ".repeat(10) + "age<1"
                + (" or " + "not ".repeat(10) + "age<1").repeat(9) + ";"));
        c.due("a not behind ten (, one of them closed", -1,
                Checks.faultOf(start + "(" + nine + "age<1) and not age<1" + shut + ";"));
        c.due("a ( behind ten (, one of them closed", -1,
                Checks.faultOf(start + "(" + nine + "age<1) and (age<1)" + shut + ";"));
        c.due("two of them behind ten (, one of them closed", start.length() + 10 + "age<1) and (".length(),
                Checks.faultOf(start + "(" + nine + "age<1) and (not age<1)" + shut + ";"));
        c.due("two of them behind ten (, two of them closed", -1,
                Checks.faultOf(start + "(" + nine + "age<1)) and (not age<1)" + shut.substring(1) + ";"));
        c.due("a not is closed behind its ONE", -1,
                Checks.faultOf(start + nine + "not age<1 and not age<1" + shut + ";"));
        c.due("a not isn't closed ahead of it", start.length() + 9 + 4, Checks.faultOf(start + nine + "not (age<1)" + shut + ";"));
        for (String word : List.of(" or ", " and ")) {
            String second = start + nine + "age<1" + word;
            c.due("a tenth behind" + word, -1, Checks.faultOf(second + "(age<1)" + shut + ";"));
            c.due("a tenth not behind" + word, -1, Checks.faultOf(second + "not age<1" + shut + ";"));
            c.due("an eleventh behind" + word, second.length() + 1, Checks.faultOf(second + "((age<1))" + shut + ";"));
            c.due("an eleventh, a not, behind" + word, second.length() + 1, Checks.faultOf(second + "(not age<1)" + shut + ";"));
            String third = second + "age<1 and age<1 or age<1" + word;
            c.due("an eleventh further behind" + word, third.length() + 4, Checks.faultOf(third + "not (age<1)" + shut + ";"));
        }
        c.due("a later statement begins anew", -1,
                Checks.faultOf(start + "(" + nine + "age<1" + shut + ");clause 2:half if not " + nine + "age<1" + shut + ";"));
    }

    private static void faultOfStatements() {
        c.of("30 FAULT: at most 40 statements; the 41st statement's first");
        c.due("none", -1, Checks.faultOf(""));
        c.due("39", -1, Checks.faultOf("omit 1;".repeat(39)));
        c.due("40", -1, Checks.faultOf("omit 1;".repeat(40)));
        c.due("41", 280, Checks.faultOf("omit 1;".repeat(41)));
        c.due("41, the last not ended", 280, Checks.faultOf("omit 1;".repeat(40) + "omit"));
        c.due("40, the last not ended", 279, Checks.faultOf("omit 1;".repeat(39) + "omit 1"));
        c.due("40 and blanks", -1, Checks.faultOf("omit 1;".repeat(40) + " \n "));
        c.due("41 behind blanks", 283, Checks.faultOf("omit 1;".repeat(40) + " \n omit 1;"));
        c.due("40 and what is none", 280, Checks.faultOf("omit 1;".repeat(40) + "half"));
        c.due("40 clauses", -1, Checks.faultOf("clause 1:half;".repeat(40)));
        c.due("41 clauses", 560, Checks.faultOf("clause 1:half;".repeat(41)));
        SchoolBoard x = new SchoolBoard();
        StringBuilder forty = new StringBuilder();
        for (int number = 21; number <= 60; number++) {
            forty.append("clause ").append(number).append(":half;");
        }
        c.due("forty of them", 0, Checks.act(x, 0, forty.toString()));
        c.due("all are in the CODE", 40, x.clause(0, -1, 0));
    }

    private static void faultOfBytes() {
        c.of("30 FAULT: letters a to z, digits, signs, blanks (bytes 32 and 10); or byte that begins none");
        for (int letter = 0; letter < 256; letter++) {
            boolean isBlank = letter == 32 || letter == 10;
            boolean isWord = letter >= 'a' && letter <= 'z';
            boolean isDigit = letter >= '0' && letter <= '9';
            boolean isSmall = letter >= '0' && letter <= '5';
            int between = isBlank || isSmall ? -1 : isWord ? 0 : 4;
            c.due("byte " + letter + " between omit and 1", between, Checks.faultOf("omit" + (char) letter + "1;"));
            int behind = isBlank || isDigit ? -1 : letter == ';' ? 7 : 6;
            c.due("byte " + letter + " behind omit 1", behind, Checks.faultOf("omit 1" + (char) letter + ";"));
            int six = isDigit && letter > '0' ? 5 : behind;
            c.due("byte " + letter + " behind omit 6", six, Checks.faultOf("omit 6" + (char) letter + ";"));
            c.due("byte " + letter + " alone", isBlank ? -1 : 0, Checks.faultOf("" + (char) letter));
            c.due("byte " + letter + " behind all", isBlank ? -1 : 7, Checks.faultOf("omit 1;" + (char) letter));
        }
        for (int i = 0; i < 6; i++) {
            String sign = ":<>=()".substring(i, i + 1);
            c.due("a sign " + sign + " stands alone", 6, Checks.faultOf("omit 1" + sign + sign));
        }
    }

    private static void faultOfLongTokens() {
        c.of("30 FAULT: tokens as long as they go");
        c.due("a number of four digits and one more", 13, Checks.faultOf("clause 1:cap 99991;"));
        c.due("a number at the end is whole", 17, Checks.faultOf("clause 1:cap 9999"));
        c.due("five digits at the end", 13, Checks.faultOf("clause 1:cap 99999"));
        c.due("a word at the end is whole", 9, Checks.faultOf("clause 1:ca"));
        c.due("a word and more letters", 9, Checks.faultOf("clause 1:capx 1;"));
        c.due("a name and another one in one word", 17, Checks.faultOf("clause 1:half if standardday<1;"));
        c.due("the same that stand apart", 26, Checks.faultOf("clause 1:half if standard day<1;"));
        c.due("another such word", 17, Checks.faultOf("clause 1:half if quarterssubject<1;"));
        c.due("the whole of a word and less", 17, Checks.faultOf("clause 1:half if quarter<1;"));
        c.due("digits end a word", -1, Checks.faultOf("clause1:cap1;"));
        c.due("a word ends digits", -1, Checks.faultOf("clause 1:excuse 1as 1if age<1or age<2and age<3;"));
        c.due("signs end both", -1, Checks.faultOf("clause 1:half if(age<1)or(not(age<2));"));
        c.due("two words", 0, Checks.faultOf("omitomit 1;"));
        c.due("a gap within a word", 0, Checks.faultOf("om it 1;"));
        c.due("a gap within a number", 7, Checks.faultOf("omit 1 2;"));
        c.due("a gap within two signs", 22, Checks.faultOf("clause 1:half if age< =1;"));
        c.of("30 FAULT: the text's length, if more must come, blanks behind it too");
        c.due("blanks", 10, Checks.faultOf("omit 1 \n  "));
        c.due("800 bytes", 800, Checks.faultOf("omit 1" + " ".repeat(794)));
    }

    private static void written() {
        c.of("31 written: byte i of the CODE of a YEAR; how many (i NONE)");
        String text = "clause 7:half;clause 60:cap 5;";
        SchoolBoard x = taken(1, "clause 60:cap 5;clause 7:half;");
        c.due("how many", text.length(), x.written(1, -1));
        for (int i = 0; i < text.length(); i++) {
            c.due("byte " + i, text.charAt(i), x.written(1, i));
        }
        c.of("31 written: NONE: none such");
        c.due("byte -2", -1, x.written(1, -2));
        c.due("the byte behind the last", -1, x.written(1, text.length()));
        c.due("year -1", -1, x.written(-1, 0));
        c.due("year 8", -1, x.written(8, 0));
        c.due("year 8, how many", -1, x.written(8, -1));
        c.due("YEAR 0, how many", 0, x.written(0, -1));
        c.due("YEAR 0, byte 0", -1, x.written(0, 0));
        c.due("YEAR 7, byte 0", 'c', x.written(7, 0));
    }

    private static String rewritten(String text) {
        SchoolBoard x = new SchoolBoard();
        return Checks.act(x, 0, text) == 0 ? Checks.written(x, 0) : "fault " + x.fault();
    }

    private static void writtenGaps() {
        c.of("31 WRITTEN: one blank between two that are words or digits, none else; NUMBERS without zeros ahead");
        String[] bodies = {"count present as 0", "count late as 1", "count work as 2", "excuse 0 as 2", "excuse 5 as 0",
            "attend 0", "attend 9999", "pass 0 needs 0", "pass 5 needs 9999", "rise 6", "grant 0 per head", "grant 10 per child",
            "grant 9999 per pass 5", "cap 100", "fee 7", "half", "room 80", "staff 25", "step 1000", "pay 9999 is 0", "pay 1 is 10",
            "teach 0 is 9999", "teach 5 is 0", "small 20"};
        for (String body : bodies) {
            String due = "clause 7:" + body + ";";
            c.text("as it is", due, rewritten(due));
            c.text("by many blanks", due, rewritten("\n clause  7 : " + body.replace(" ", " \n ") + "  ;\n"));
            c.text("by zeros", due, rewritten("clause 0007:" + body.replaceAll("\\b([0-9])\\b", "000$1") + ";"));
        }
        c.text("a number of zeros", "clause 1:cap 0;", rewritten("clause 0001:cap 0000;"));
        c.text("zeros behind stay", "clause 10:cap 100;", rewritten("clause 0010:cap 0100;"));
        c.text("digits and words close together", "clause 1:excuse 1 as 2 if age<3 or day=4 and not half>5;",
                rewritten("clause1:excuse1as2if age<3or day=4and not half>5;"));
        c.text("an IF's numbers", "clause 1:half if age<0 or age<5 or age<50 or age<9999;",
                rewritten("clause 1:half if age<0000 or age<0005 or age<050 or age<9999;"));
        c.text("by NUMBERS", "clause 1:half;clause 2:half;clause 10:half;clause 59:half;clause 60:half;",
                rewritten("clause 60:half;clause 10:half;clause 2:half;clause 59:half;clause 1:half;"));
    }

    private static void bracketed(String want, String text) {
        String if_ = want.startsWith("(") ? "if" : "if ";
        c.text(text, "clause 1:fee 2 " + if_ + want + ";", rewritten("clause 1:fee 2 if " + text + ";"));
    }

    private static void writtenBrackets() {
        c.of("31 WRITTEN: ( and ) only where needed: or in and, or and and behind not");
        String a = "age<1";
        String b = "day>2";
        String d = "year=3";
        bracketed("age<1", "(".repeat(10) + "age<1" + ")".repeat(10));
        bracketed("age<1 or day>2 or year=3", a + " or (" + b + " or " + d + ")");
        bracketed("age<1 or day>2 or year=3", "(" + a + " or " + b + ") or " + d);
        bracketed("age<1 and day>2 and year=3", a + " and (" + b + " and " + d + ")");
        bracketed("age<1 and day>2 and year=3", "((" + a + ") and (" + b + ")) and (" + d + ")");
        bracketed("age<1 or day>2 and year=3", a + " or (" + b + " and " + d + ")");
        bracketed("age<1 and day>2 or year=3", "(" + a + " and " + b + ") or " + d);
        bracketed("age<1 and(day>2 or year=3)", a + " and (" + b + " or " + d + ")");
        bracketed("(age<1 or day>2)and year=3", "(" + a + " or " + b + ") and " + d);
        bracketed("(age<1 or day>2)and(day>2 or year=3)", "((" + a + " or " + b + ")) and (" + b + " or " + d + ")");
        bracketed("age<1 and(day>2 or year=3)and age<1", a + " and (" + b + " or " + d + ") and " + a);
        bracketed("age<1 and(day>2 or year=3 and age<1)", a + " and (" + b + " or (" + d + " and " + a + "))");
        bracketed("not age<1", "not (" + a + ")");
        bracketed("not not age<1", "not (not (" + a + "))");
        bracketed("not not not age<1", "(not ((not not (" + a + "))))");
        bracketed("not(age<1 or day>2)", "not (" + a + " or " + b + ")");
        bracketed("not(age<1 and day>2)", "not (" + a + " and " + b + ")");
        bracketed("not not(age<1 and day>2)", "not (not (" + a + " and " + b + "))");
        bracketed("not age<1 and day>2", "(not " + a + ") and " + b);
        bracketed("age<1 and not day>2", a + " and (not " + b + ")");
        bracketed("not age<1 or not day>2", "(not " + a + ") or (not " + b + ")");
        bracketed("not(age<1 or day>2)and year=3", "(not (" + a + " or " + b + ")) and " + d);
        bracketed("not(not age<1 or day>2)", "not ((not " + a + ") or " + b + ")");
        bracketed("not((age<1 or day>2)and year=3)", "not ((" + a + " or " + b + ") and " + d + ")");
        bracketed("not(age<1 or day>2 and year=3)", "not (" + a + " or (" + b + " and " + d + "))");
        c.of("31 WRITTEN: as many in one IF as 800 bytes hold");
        bracketed("day=1" + " or day=1".repeat(85), "day=1" + " or day=1".repeat(85));
        bracketed("day=1" + " and day=1".repeat(75), "day=1" + " and day=1".repeat(75));
        bracketed("(day=1 or age<2)" + "and(day=1 or age<2)".repeat(40), "(day=1 or age<2)" + "and(day=1 or age<2)".repeat(40));
        c.of("31 WRITTEN: what's WRITTEN is an ACT that is WRITTEN the same");
        String all = "clause 1:fee 2 if not((age<1 or day>2)and not year=3)or poor=1 and timer=0;";
        c.text("once", all, rewritten(all));
    }

    private static void clause() {
        c.of("32 clause: how many (k NONE); of the k-th by NUMBERS: its NUMBER (0), the ACT from which it is (1)");
        SchoolBoard x = taken(0, "clause 9:half;clause 60:cap 1;clause 1:fee 2;", 1, "clause 9:half if age=1;omit 60;clause 2:cap 2;",
                1, "omit 59;clause 30:cap 3;");
        int[][][] due = {{{1, 0}, {9, 0}, {60, 0}}, {{1, 0}, {2, 1}, {9, 1}, {30, 2}}};
        for (int year = 0; year < 8; year++) {
            int[][] rows = due[Math.min(year, 1)];
            c.due("how many in " + year, rows.length, x.clause(year, -1, 0));
            for (int k = 0; k < rows.length; k++) {
                c.due("NUMBER of " + k + " in " + year, rows[k][0], x.clause(year, k, 0));
                c.due("ACT of " + k + " in " + year, rows[k][1], x.clause(year, k, 1));
                c.due("what -1", -1, x.clause(year, k, -1));
                c.due("what 2", -1, x.clause(year, k, 2));
            }
            c.due("k behind the last in " + year, -1, x.clause(year, rows.length, 0));
            c.due("k -2", -1, x.clause(year, -2, 0));
        }
        c.of("32 clause: NONE: none such");
        c.due("year -1", -1, x.clause(-1, 0, 0));
        c.due("year 8", -1, x.clause(8, 0, 0));
        c.due("year -1, how many", -1, x.clause(-1, -1, 0));
        c.due("year 8, how many", -1, x.clause(8, -1, 0));
        SchoolBoard eight = taken(0, "clause 1:half;", 0, "clause 2:half;", 0, "clause 3:half;", 0, "clause 4:half;",
                0, "clause 5:half;", 0, "clause 6:half;", 0, "clause 7:half;", 0, "clause 1:cap 1;clause 8:half;");
        c.due("the first ACT's place taken by the eighth", 7, eight.clause(0, 0, 1));
        c.due("the second's stays", 1, eight.clause(0, 1, 1));
        c.due("the last", 7, eight.clause(0, 7, 1));
    }
}
