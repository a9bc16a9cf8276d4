import java.util.ArrayList;
import java.util.Comparator;
import java.util.HashMap;
import java.util.List;
import java.util.Map;
import java.util.TreeMap;
import java.util.stream.IntStream;

/** The document's words as plainly as they can be run: lists of what was told, looked through anew for every answer. */
final class PlainBoard {
    static final int NONE = -1;
    static final int NO_SUCH = -1000000;
    private static final int[] MOST = {150, 30, 300, 60, 30, 30, 250};

    private static final class Told {
        int kind;
        int who;
        int told;
        int undone = NONE;
        int from;
        int to;
        int value;
        int subject;
    }

    private static final class Child {
        int born;
        int street;
        int came;
        int cameYear;
        int paid;
        final Map<Integer, Integer> estimates = new HashMap<>();
    }

    private record Place(int x, int y, int cubic) { }

    private static final class Teacher {
        int school;
        int first;
        final Map<Integer, Integer> proofs = new HashMap<>();
    }

    private record Taken(int year, PlainAct act) { }

    private record Standing(PlainAct.Statement clause, int act) { }

    private record Line(int child, int clause, int pence) { }

    private record Round(int set, int worth, int minutes) { }

    private record Row(int pence, List<Integer> sets) { }

    private int today;
    private final List<Child> children = new ArrayList<>();
    private final List<Place> schools = new ArrayList<>();
    private final List<Place> sites = new ArrayList<>();
    private final Place[] streets = new Place[10];
    private final List<Told> book = new ArrayList<>();
    private final List<Teacher> teachers = new ArrayList<>();
    private final List<Taken> acts = new ArrayList<>();
    private final StringBuilder tape = new StringBuilder();
    private final List<Integer> houses = new ArrayList<>();
    private int fault = NONE;
    private int seats;
    private final List<Integer> parties = new ArrayList<>();
    private final List<Map<Integer, Integer>> ballots = new ArrayList<>();
    // What was worked out since something was told last.
    private final Map<String, Integer> kept = new HashMap<>();
    private final Map<Integer, TreeMap<Integer, Standing>> codes = new HashMap<>();

    PlainBoard() {
        for (int i = 0; i < 10; i++) {
            streets[i] = new Place(0, 0, 0);
        }
    }

    private static boolean in(int value, int least, int most) {
        return least <= value && value <= most;
    }

    private boolean isChild(int c) {
        return in(c, 0, children.size() - 1);
    }

    private boolean isSchool(int s) {
        return in(s, 0, schools.size() - 1);
    }

    private static boolean isDay(int d) {
        return in(d, 0, 799);
    }

    private static boolean isYear(int y) {
        return in(y, 0, 7);
    }

    private void forget() {
        kept.clear();
    }

    boolean day(int d) {
        if (d <= today || d > 799) {
            return false;
        }
        forget();
        today = d;
        return true;
    }

    int child(int born, int street, int standard) {
        if (!in(born, -1500, today) || !in(street, 0, 9) || !in(standard, 0, 6) || children.size() == 40) {
            return NONE;
        }
        forget();
        Child c = new Child();
        c.born = born;
        c.street = street;
        c.came = standard;
        c.cameYear = today / 100;
        children.add(c);
        return children.size() - 1;
    }

    int school(int x, int y, int cubic) {
        if (!in(x, 0, 60) || !in(y, 0, 60) || !in(cubic, 0, 9999) || schools.size() == 6) {
            return NONE;
        }
        schools.add(new Place(x, y, cubic));
        return schools.size() - 1;
    }

    boolean street(int street, int x, int y) {
        if (!in(street, 0, 9) || !in(x, 0, 60) || !in(y, 0, 60)) {
            return false;
        }
        streets[street] = new Place(x, y, 0);
        return true;
    }

    boolean moves(int child, int street) {
        if (!isChild(child) || !in(street, 0, 9)) {
            return false;
        }
        children.get(child).street = street;
        return true;
    }

    private int tell(int kind, int who, int from, int to, int value, int subject) {
        forget();
        Told t = new Told();
        t.kind = kind;
        t.who = who;
        t.told = today;
        t.from = from;
        t.to = to;
        t.value = value;
        t.subject = subject;
        book.add(t);
        return book.size() - 1;
    }

    private boolean isFull(int kind) {
        return book.stream().filter(t -> t.kind == kind).count() == MOST[kind];
    }

    int enter(int child, int school, int day) {
        if (!isChild(child) || school != NONE && !isSchool(school) || !in(day, 0, today)) {
            return NONE;
        }
        if (isFull(0)) {
            return -2;
        }
        if (school != NONE) {
            int room = holds(school, day / 100);
            long others = IntStream.range(0, children.size()).filter(c -> c != child && on(c, day, today) == school)
                    .count();
            if (room != NONE && others + 1 > room) {
                return -3;
            }
        }
        return tell(0, child, day, day, school, 0);
    }

    int shut(int school, int from, int to) {
        if (!isSchool(school) || !isDay(from) || !isDay(to) || from > to || isFull(1)) {
            return NONE;
        }
        return tell(1, school, from, to, 0, 0);
    }

    int mark(int child, int from, int half, int to, int toHalf, int what) {
        if (!isChild(child) || from < 0 || to > today || !in(half, 0, 1) || !in(toHalf, 0, 1) || !in(what, 0, 3)) {
            return NONE;
        }
        if (from > to || from == to && half > toHalf || isFull(2)) {
            return NONE;
        }
        return tell(2, child, from * 2 + half, to * 2 + toHalf, what, 0);
    }

    int grantSpan(int child, int what, int kind, int from, int to) {
        if (!isChild(child) || !in(what, 0, 2) || what == 0 && !in(kind, 0, 5)) {
            return NONE;
        }
        if (!isDay(from) || !isDay(to) || from > to || isFull(3 + what)) {
            return NONE;
        }
        if (what == 1) {
            int year = from / 100;
            Map<String, Integer> asked = new HashMap<>();
            asked.put("age", age(child, from));
            asked.put("standard", standard(child, year, today));
            asked.put("year", year);
            if (first(year, "half", null, asked) == null) {
                return -2;
            }
        }
        return tell(3 + what, child, from, to, kind, 0);
    }

    int result(int child, int year, int subject, int mark) {
        if (!isChild(child) || !in(year, 0, today / 100) || !in(subject, 0, 5) || !in(mark, 0, 100) || isFull(6)) {
            return NONE;
        }
        return tell(6, child, year, year, mark, subject);
    }

    boolean undo(int number) {
        if (!in(number, 0, book.size() - 1) || book.get(number).undone != NONE) {
            return false;
        }
        forget();
        book.get(number).undone = today;
        return true;
    }

    int book(int number, int what) {
        if (!in(number, 0, book.size() - 1)) {
            return NONE;
        }
        Told t = book.get(number);
        return what == 0 ? t.kind : what == 1 ? t.who : what == 2 ? t.told : what == 3 ? t.undone : NONE;
    }

    private List<Told> known(int kind, int who, int known) {
        List<Told> found = new ArrayList<>();
        for (Told t : book) {
            if (t.kind == kind && t.who == who && t.told <= known && !(t.undone != NONE && t.undone <= known)) {
                found.add(t);
            }
        }
        return found;
    }

    private boolean has(int kind, int who, int day, int known) {
        return known(kind, who, known).stream().anyMatch(t -> in(day, t.from, t.to));
    }

    int on(int child, int day, int known) {
        if (!isChild(child) || !isDay(day) || !isDay(known)) {
            return NONE;
        }
        Told last = null;
        for (Told t : known(0, child, known)) {
            if (t.from <= day && (last == null || t.from >= last.from)) {
                last = t;
            }
        }
        return last == null ? NONE : last.value;
    }

    int marked(int child, int day, int half, int known) {
        if (!isChild(child) || !isDay(day) || !in(half, 0, 1) || !isDay(known)) {
            return NONE;
        }
        int mark = 0;
        for (Told t : known(2, child, known)) {
            if (in(day * 2 + half, t.from, t.to)) {
                mark = t.value;
            }
        }
        return mark;
    }

    private int age(int child, int day) {
        return Math.max(0, (day - children.get(child).born) / 100);
    }

    // ---- the CODE

    private TreeMap<Integer, Standing> code(int year) {
        return codes.computeIfAbsent(year, this::told);
    }

    private TreeMap<Integer, Standing> told(int year) {
        TreeMap<Integer, Standing> code = new TreeMap<>();
        List<Integer> order = new ArrayList<>();
        for (int a = 0; a < acts.size(); a++) {
            if (acts.get(a).year <= year) {
                order.add(a);
            }
        }
        order.sort(Comparator.comparingInt(a -> acts.get(a).year));
        for (int a : order) {
            for (PlainAct.Statement s : acts.get(a).act.statements) {
                if (s.body() == null) {
                    code.remove(s.number());
                } else {
                    code.put(s.number(), new Standing(s, a));
                }
            }
        }
        return code;
    }

    /** The clauses of a kind by NUMBERS; of: the token behind the kind, or null for any. */
    private List<PlainAct.Statement> clauses(int year, String kind, String of) {
        List<PlainAct.Statement> found = new ArrayList<>();
        for (Standing s : code(year).values()) {
            List<String> body = s.clause.body();
            if (body.get(0).equals(kind) && (of == null || sameToken(body.get(1), of))) {
                found.add(s.clause);
            }
        }
        return found;
    }

    private static boolean sameToken(String token, String of) {
        return token.matches("[0-9]+") ? Integer.parseInt(token) == Integer.parseInt(of) : token.equals(of);
    }

    private PlainAct.Statement first(int year, String kind, String of, Map<String, Integer> asked) {
        for (PlainAct.Statement s : clauses(year, kind, of)) {
            if (s.isMet(asked)) {
                return s;
            }
        }
        return null;
    }

    private static int number(PlainAct.Statement clause, int at) {
        return Integer.parseInt(clause.body().get(at));
    }

    private Integer least(int year, String kind) {
        List<PlainAct.Statement> found = clauses(year, kind, null);
        return found.isEmpty() ? null : (Integer) number(found.get(0), 1);
    }

    // ---- QUARTERS, PASSES, STANDARDS

    private boolean isTaught(int child, int day, int known) {
        int school = on(child, day, known);
        return school != NONE && !has(1, school, day, known);
    }

    int quarters(int child, int day, int half, int code, int known) {
        if (!isChild(child) || !isDay(day) || !in(half, 0, 1) || !isYear(code) || !isDay(known)) {
            return NONE;
        }
        return kept("q", child, day, half, code, known, () -> quartersAnew(child, day, half, code, known));
    }

    private int quartersAnew(int child, int day, int half, int code, int known) {
        if (!isTaught(child, day, known)) {
            return 0;
        }
        Map<String, Integer> asked = new HashMap<>();
        asked.put("age", age(child, day));
        asked.put("standard", standard(child, day / 100, known));
        asked.put("day", day % 100);
        asked.put("year", day / 100);
        asked.put("half", half);
        asked.put("excused", has(3, child, day, known) ? 1 : 0);
        asked.put("timer", has(4, child, day, known) ? 1 : 0);
        asked.put("poor", has(5, child, day, known) ? 1 : 0);
        int mark = marked(child, day, half, known);
        if (mark > 0) {
            String[] words = {"absent", "present", "late", "work"};
            PlainAct.Statement count = first(code, "count", words[mark], asked);
            return count == null ? 0 : number(count, 3);
        }
        for (PlainAct.Statement excuse : clauses(code, "excuse", null)) {
            boolean isExcused = known(3, child, known).stream()
                    .anyMatch(t -> in(day, t.from, t.to) && t.value == number(excuse, 1));
            if (isExcused && excuse.isMet(asked)) {
                return number(excuse, 3);
            }
        }
        return 0;
    }

    int yearly(int child, int year, int code, int known) {
        if (!isChild(child) || !isYear(year) || !isYear(code) || !isDay(known)) {
            return NONE;
        }
        int sum = 0;
        for (int half = 0; half < 200; half++) {
            sum += quarters(child, year * 100 + half / 2, half % 2, code, known);
        }
        return sum;
    }

    private interface Work {
        int answer();
    }

    private int kept(String what, int a, int b, int c, int d, int e, Work work) {
        String key = what + " " + a + " " + b + " " + c + " " + d + " " + e;
        Integer had = kept.get(key);
        if (had == null) {
            had = work.answer();
            kept.put(key, had);
        }
        return had;
    }

    private Map<String, Integer> askedAtEnd(int child, int year, int known) {
        int last = year * 100 + 99;
        Map<String, Integer> asked = new HashMap<>();
        asked.put("age", age(child, last));
        asked.put("standard", standard(child, year, known));
        asked.put("year", year);
        asked.put("timer", has(4, child, last, known) ? 1 : 0);
        asked.put("poor", has(5, child, last, known) ? 1 : 0);
        return asked;
    }

    int standard(int child, int year, int known) {
        if (!isChild(child) || !isYear(year) || !isDay(known)) {
            return NONE;
        }
        return kept("s", child, year, known, 0, 0, () -> standardAnew(child, year, known));
    }

    private int standardAnew(int child, int year, int known) {
        Child c = children.get(child);
        if (year <= c.cameYear) {
            return c.came;
        }
        int before = standard(child, year - 1, known);
        int passed = Integer.bitCount(passes(child, year - 1, year - 1, known));
        Map<String, Integer> asked = askedAtEnd(child, year - 1, known);
        asked.put("passes", passed);
        PlainAct.Statement rise = first(year - 1, "rise", null, asked);
        return rise != null && passed >= number(rise, 1) ? Math.min(6, before + 1) : before;
    }

    private int mark(int child, int year, int subject, int known) {
        int mark = NONE;
        for (Told t : known(6, child, known)) {
            if (t.from == year && t.subject == subject) {
                mark = t.value;
            }
        }
        return mark;
    }

    private boolean wouldPass(int child, int year, int subject, int mark, int code, int known) {
        Map<String, Integer> asked = askedAtEnd(child, year, known);
        asked.put("subject", subject);
        asked.put("mark", mark);
        PlainAct.Statement pass = first(code, "pass", Integer.toString(subject), asked);
        return pass != null && mark >= number(pass, 3);
    }

    int passes(int child, int year, int code, int known) {
        if (!isChild(child) || !isYear(year) || !isYear(code) || !isDay(known)) {
            return NONE;
        }
        int bits = 0;
        for (int s = 0; s < 6; s++) {
            int mark = mark(child, year, s, known);
            if (mark != NONE && wouldPass(child, year, s, mark, code, known)) {
                bits |= 1 << s;
            }
        }
        return bits;
    }

    // ---- GRANTS

    private int daysOpen(int school, int year, int known) {
        return (int) IntStream.range(year * 100, year * 100 + 100).filter(d -> !has(1, school, d, known)).count();
    }

    private int average(int school, int year, int code, int known) {
        int sum = 0;
        for (int c = 0; c < children.size(); c++) {
            for (int half = 0; half < 200; half++) {
                int day = year * 100 + half / 2;
                if (on(c, day, known) == school) {
                    sum += quarters(c, day, half % 2, code, known);
                }
            }
        }
        int days = daysOpen(school, year, known);
        return days == 0 ? 0 : sum / (4 * days);
    }

    private int covers(int school, int year, int code) {
        Integer staff = least(code, "staff");
        if (staff == null) {
            return NONE;
        }
        return staff * (1 + (int) teachers.stream().filter(t -> t.school == school && t.first <= year).count());
    }

    private List<Line> lines(int school, int year, int code, int known) {
        List<Line> lines = new ArrayList<>();
        int average = average(school, year, code, known);
        int covers = covers(school, year, code);
        Map<String, Integer> yearAlone = Map.of("year", year);
        for (PlainAct.Statement s : clauses(code, "grant", null)) {
            if (s.body().get(3).equals("head") && s.isMet(yearAlone)) {
                int heads = covers == NONE ? average : Math.min(covers, average);
                lines.add(new Line(NONE, s.number(), number(s, 1) * heads));
            }
        }
        for (int c = 0; c < children.size(); c++) {
            if (on(c, year * 100 + 99, known) == school) {
                childLines(lines, c, year, code, known);
            }
        }
        List<PlainAct.Statement> caps = clauses(code, "cap", null);
        int sum = lines.stream().mapToInt(Line::pence).sum();
        if (!caps.isEmpty() && sum > number(caps.get(0), 1) * average) {
            lines.add(new Line(NONE, caps.get(0).number(), number(caps.get(0), 1) * average - sum));
        }
        return lines;
    }

    private void childLines(List<Line> lines, int c, int year, int code, int known) {
        int passes = passes(c, year, code, known);
        int quarters = yearly(c, year, code, known);
        Map<String, Integer> asked = askedAtEnd(c, year, known);
        asked.put("passes", Integer.bitCount(passes));
        asked.put("quarters", quarters);
        PlainAct.Statement attend = first(code, "attend", null, asked);
        if (attend != null && quarters < number(attend, 1)) {
            return;
        }
        for (PlainAct.Statement s : clauses(code, "grant", null)) {
            String per = s.body().get(3);
            if (per.equals("child") && s.isMet(asked)) {
                lines.add(new Line(c, s.number(), number(s, 1)));
            }
            if (per.equals("pass") && (passes >> number(s, 4) & 1) == 1) {
                Map<String, Integer> more = new HashMap<>(asked);
                more.put("subject", number(s, 4));
                more.put("mark", mark(c, year, number(s, 4), known));
                if (s.isMet(more)) {
                    lines.add(new Line(c, s.number(), number(s, 1)));
                }
            }
        }
    }

    int grant(int school, int year, int code, int known, int what) {
        if (!isSchool(school) || !isYear(year) || !isYear(code) || !isDay(known)) {
            return NONE;
        }
        switch (what) {
            case 0: return average(school, year, code, known);
            case 1: return daysOpen(school, year, known);
            case 2: return (int) IntStream.range(0, children.size())
                    .filter(c -> on(c, year * 100 + 99, known) == school).count();
            case 3: return covers(school, year, code);
            case 4: return lines(school, year, code, known).stream().mapToInt(Line::pence).sum();
            case 5: return lines(school, year, code, known).size();
            default: return NONE;
        }
    }

    int line(int school, int year, int code, int known, int k, int what) {
        if (!isSchool(school) || !isYear(year) || !isYear(code) || !isDay(known) || !in(what, 0, 2)) {
            return NO_SUCH;
        }
        List<Line> lines = lines(school, year, code, known);
        if (!in(k, 0, lines.size() - 1)) {
            return NO_SUCH;
        }
        Line line = lines.get(k);
        return what == 0 ? line.child : what == 1 ? line.clause : line.pence;
    }

    // ---- FEES, ROOM, PUPIL TEACHERS

    int fees(int child, int day, int what) {
        if (!isChild(child) || !isDay(day) || !in(what, 0, 2)) {
            return NO_SUCH;
        }
        int fees = 0;
        for (int d = 0; d <= day; d += 5) {
            if (isTaught(child, d, today) && !has(5, child, d, today)) {
                Map<String, Integer> asked = new HashMap<>();
                asked.put("age", age(child, d));
                asked.put("standard", standard(child, d / 100, today));
                asked.put("year", d / 100);
                asked.put("timer", has(4, child, d, today) ? 1 : 0);
                asked.put("day", d % 100);
                PlainAct.Statement fee = first(d / 100, "fee", null, asked);
                fees += fee == null ? 0 : number(fee, 1);
            }
        }
        int paid = children.get(child).paid;
        return what == 0 ? fees : what == 1 ? paid : fees - paid;
    }

    int pay(int child, int pence) {
        if (!isChild(child) || !in(pence, 1, 9999) || children.get(child).paid + pence > 999999) {
            return NONE;
        }
        return children.get(child).paid += pence;
    }

    int holds(int school, int year) {
        if (!isSchool(school) || !isYear(year)) {
            return -2;
        }
        Integer room = least(year, "room");
        return room == null || room == 0 ? NONE : schools.get(school).cubic / room;
    }

    int teacher(int school) {
        if (!isSchool(school) || teachers.size() == 20) {
            return NONE;
        }
        Teacher t = new Teacher();
        t.school = school;
        t.first = today / 100;
        teachers.add(t);
        return teachers.size() - 1;
    }

    boolean proof(int teacher, int year, int mark) {
        if (!in(teacher, 0, teachers.size() - 1) || !in(mark, 0, 100)) {
            return false;
        }
        Teacher t = teachers.get(teacher);
        if (!in(year, t.first, today / 100)) {
            return false;
        }
        t.proofs.merge(year, mark, Math::max);
        return true;
    }

    int teacherOf(int teacher, int year, int what) {
        if (!in(teacher, 0, teachers.size() - 1) || !in(what, 0, 1) || !isYear(year)) {
            return NONE;
        }
        Teacher t = teachers.get(teacher);
        if (year < t.first) {
            return NONE;
        }
        int step = 1;
        for (int y = t.first; y < year; y++) {
            Integer needed = least(y, "step");
            if (t.proofs.containsKey(y) && t.proofs.get(y) >= (needed == null ? 0 : needed) && step < 5) {
                step++;
            }
        }
        if (what == 0) {
            return step;
        }
        List<PlainAct.Statement> pays = clauses(year, "pay", Integer.toString(step));
        return pays.isEmpty() ? 0 : number(pays.get(0), 3);
    }

    // ---- ACTS

    int feed(int a, int b, int c, int d, int e) {
        if (tape.length() + 20 > 800) {
            return NONE;
        }
        for (int four : new int[] {a, b, c, d, e}) {
            for (int shift = 24; shift >= 0; shift -= 8) {
                tape.append((char) (four >>> shift & 255));
            }
        }
        return tape.length();
    }

    int act(int n, int year) {
        if (n < 0 || n > tape.length() || year < today / 100 || year > 7) {
            return -2;
        }
        if (acts.size() == 8) {
            return -3;
        }
        PlainAct act = new PlainAct(tape.substring(0, n));
        tape.setLength(0);
        fault = act.fault;
        if (fault != NONE) {
            return NONE;
        }
        forget();
        codes.clear();
        acts.add(new Taken(year, act));
        return acts.size() - 1;
    }

    int fault() {
        return fault;
    }

    private String text(int year) {
        StringBuilder text = new StringBuilder();
        for (Standing s : code(year).values()) {
            text.append(s.clause.written());
        }
        return text.toString();
    }

    int written(int year, int i) {
        if (!isYear(year)) {
            return NONE;
        }
        String text = text(year);
        return i == NONE ? text.length() : in(i, 0, text.length() - 1) ? text.charAt(i) : NONE;
    }

    int clause(int year, int k, int what) {
        if (!isYear(year)) {
            return NONE;
        }
        List<Standing> all = new ArrayList<>(code(year).values());
        if (k == NONE) {
            return all.size();
        }
        if (!in(k, 0, all.size() - 1) || !in(what, 0, 1)) {
            return NONE;
        }
        return what == 0 ? all.get(k).clause.number() : all.get(k).act;
    }

    // ---- ENTERING, OFFICER, SITES

    boolean estimate(int child, int subject, int mark) {
        if (!isChild(child) || !in(subject, 0, 5) || !in(mark, NONE, 100)) {
            return false;
        }
        children.get(child).estimates.put(subject, mark);
        return true;
    }

    private int penceOf(int child, int set, int year) {
        Map<String, Integer> asked = askedAtEnd(child, year, today);
        asked.put("passes", Integer.bitCount(set));
        asked.put("quarters", yearly(child, year, year, today));
        int pence = 0;
        for (PlainAct.Statement s : clauses(year, "grant", null)) {
            if (s.body().get(3).equals("pass") && (set >> number(s, 4) & 1) == 1) {
                Map<String, Integer> more = new HashMap<>(asked);
                more.put("subject", number(s, 4));
                more.put("mark", children.get(child).estimates.get(number(s, 4)));
                pence += s.isMet(more) ? number(s, 1) : 0;
            }
        }
        return pence;
    }

    private int hoursOf(int set, int year) {
        int hours = 0;
        for (int s = 0; s < 6; s++) {
            if ((set >> s & 1) == 1) {
                List<PlainAct.Statement> found = clauses(year, "teach", Integer.toString(s));
                hours += found.isEmpty() ? 1 : number(found.get(0), 3);
            }
        }
        return hours;
    }

    private static boolean isBetter(Row a, Row b) {
        if (b == null || a.pence != b.pence) {
            return b == null || a.pence > b.pence;
        }
        for (int i = 0; i < a.sets.size(); i++) {
            if (!a.sets.get(i).equals(b.sets.get(i))) {
                return a.sets.get(i) < b.sets.get(i);
            }
        }
        return false;
    }

    /** For each sum of hours the best row of sets of the CHILDREN so far. */
    private Row bestRow(List<Integer> members, int hours) {
        int year = today / 100;
        TreeMap<Integer, Row> rows = new TreeMap<>();
        rows.put(0, new Row(0, new ArrayList<>()));
        for (int child : members) {
            TreeMap<Integer, Row> next = new TreeMap<>();
            for (int set = 0; set < 64; set++) {
                int needed = hoursOf(set, year);
                if (!mayEnter(child, set, year) || needed > hours) {
                    continue;
                }
                int pence = penceOf(child, set, year);
                for (Map.Entry<Integer, Row> had : rows.headMap(hours - needed, true).entrySet()) {
                    List<Integer> sets = new ArrayList<>(had.getValue().sets);
                    sets.add(set);
                    Row row = new Row(had.getValue().pence + pence, sets);
                    if (isBetter(row, next.get(had.getKey() + needed))) {
                        next.put(had.getKey() + needed, row);
                    }
                }
            }
            rows = next;
        }
        Row best = null;
        for (Row row : rows.values()) {
            best = isBetter(row, best) ? row : best;
        }
        return best;
    }

    private boolean mayEnter(int child, int set, int year) {
        for (int s = 0; s < 6; s++) {
            int mark = children.get(child).estimates.getOrDefault(s, NONE);
            if ((set >> s & 1) == 1 && (mark == NONE || !wouldPass(child, year, s, mark, year, today))) {
                return false;
            }
        }
        return true;
    }

    int entering(int school, int hours, int what) {
        if (!isSchool(school) || !in(hours, 0, 200) || !in(what, 0, 2) && !(what >= 10 && isChild(what - 10))) {
            return NONE;
        }
        List<Integer> members = new ArrayList<>();
        for (int c = 0; c < children.size(); c++) {
            if (on(c, today, today) == school) {
                members.add(c);
            }
        }
        Row best = bestRow(members, hours);
        switch (what) {
            case 0: return best.pence;
            case 1: return best.sets.stream().mapToInt(set -> hoursOf(set, today / 100)).sum();
            case 2: return (int) best.sets.stream().filter(set -> set == 0).count();
            default:
                int at = members.indexOf(what - 10);
                return at < 0 ? 0 : best.sets.get(at);
        }
    }

    private int worth(int street) {
        int worth = 0;
        for (int c = 0; c < children.size(); c++) {
            for (int d = Math.max(0, today - 9); children.get(c).street == street && d <= today; d++) {
                if (isTaught(c, d, today)) {
                    worth += 4 - quarters(c, d, 0, d / 100, today) - quarters(c, d, 1, d / 100, today);
                }
            }
        }
        return worth;
    }

    private int heads(int street) {
        return (int) children.stream().filter(c -> c.street == street).count();
    }

    private Round bestRound(int minutes) {
        int[] worth = IntStream.range(0, 10).map(this::worth).toArray();
        int[] heads = IntStream.range(0, 10).map(this::heads).toArray();
        Round best = new Round(0, 0, 0);
        for (int set = 0; set < 1024; set++) {
            int bits = set;
            int[] in = IntStream.range(0, 10).filter(s -> (bits >> s & 1) == 1).toArray();
            int sum = IntStream.of(in).map(s -> worth[s]).sum();
            int far = IntStream.of(in).map(s -> streets[s].x + streets[s].y).max().orElse(0);
            int taken = 2 * IntStream.of(in).map(s -> heads[s]).sum() + 2 * far;
            boolean allLived = IntStream.of(in).allMatch(s -> heads[s] > 0);
            if (allLived && taken <= minutes && sum > best.worth) {
                best = new Round(set, sum, taken);
            }
        }
        return best;
    }

    int officer(int minutes, int what) {
        if (!in(minutes, 0, 2000) || !in(what, 0, 2) && !in(what, 10, 19)) {
            return NONE;
        }
        if (what >= 10) {
            return worth(what - 10);
        }
        Round best = bestRound(minutes);
        return what == 0 ? best.worth : what == 1 ? best.set : best.minutes;
    }

    int site(int x, int y) {
        if (!in(x, 0, 60) || !in(y, 0, 60) || sites.size() == 10) {
            return NONE;
        }
        sites.add(new Place(x, y, 0));
        return sites.size() - 1;
    }

    private boolean isNear(Place a, Place b, int walk) {
        return Math.abs(a.x - b.x) + Math.abs(a.y - b.y) <= walk;
    }

    int sites(int w, int what) {
        if (!in(w, 0, 120) || !in(what, 0, 1)) {
            return NONE;
        }
        int best = NONE;
        for (int set = 0; set < 1 << sites.size(); set++) {
            int bits = set;
            boolean reaches = children.stream().map(c -> streets[c.street]).allMatch(street ->
                    schools.stream().anyMatch(s -> isNear(s, street, w))
                    || IntStream.range(0, sites.size())
                            .anyMatch(i -> (bits >> i & 1) == 1 && isNear(sites.get(i), street, w)));
            if (reaches && (best == NONE || Integer.bitCount(set) < Integer.bitCount(best))) {
                best = set;
            }
        }
        return best == NONE || what == 1 ? best : Integer.bitCount(best);
    }

    // ---- VOTES, RATES

    boolean poll(int seats) {
        if (!in(seats, 1, 9)) {
            return false;
        }
        this.seats = seats;
        parties.clear();
        ballots.clear();
        return true;
    }

    int candidate(int party) {
        if (!in(party, 0, 3) || seats == 0 || parties.size() == 10) {
            return NONE;
        }
        parties.add(party);
        return parties.size() - 1;
    }

    int ballot() {
        if (seats == 0 || ballots.size() == 60) {
            return NONE;
        }
        ballots.add(new HashMap<>());
        return ballots.size() - 1;
    }

    int heap(int ballot, int candidate, int votes) {
        if (!in(ballot, 0, ballots.size() - 1) || !in(candidate, 0, parties.size() - 1) || !in(votes, 0, 9)) {
            return NONE;
        }
        Map<Integer, Integer> after = new HashMap<>(ballots.get(ballot));
        after.put(candidate, votes);
        int given = after.values().stream().mapToInt(v -> v).sum();
        if (given > seats) {
            return NONE;
        }
        ballots.set(ballot, after);
        return seats - given;
    }

    private int votes(int candidate) {
        return ballots.stream().mapToInt(b -> b.getOrDefault(candidate, 0)).sum();
    }

    private List<Integer> elected(int[] votes) {
        List<Integer> all = new ArrayList<>();
        for (int c = 0; c < parties.size(); c++) {
            all.add(c);
        }
        all.sort(Comparator.comparingInt((Integer c) -> -votes[c]).thenComparingInt(c -> c));
        return all.subList(0, Math.min(seats, all.size()));
    }

    int candidateOf(int candidate, int what) {
        if (!in(candidate, 0, parties.size() - 1) || !in(what, 0, 2)) {
            return NONE;
        }
        int[] votes = IntStream.range(0, parties.size()).map(this::votes).toArray();
        return what == 0 ? parties.get(candidate) : what == 1 ? votes[candidate] : elected(votes).indexOf(candidate);
    }

    int sure(int party) {
        if (!in(party, 0, 3) || seats == 0) {
            return NONE;
        }
        List<Integer> own = new ArrayList<>();
        for (int c = 0; c < parties.size(); c++) {
            if (parties.get(c) == party) {
                own.add(c);
            }
        }
        int all = own.stream().mapToInt(this::votes).sum();
        int sure = 0;
        for (int s = 1; s <= Math.min(own.size(), seats); s++) {
            int[] votes = IntStream.range(0, parties.size())
                    .map(c -> parties.get(c) == party ? 0 : votes(c)).toArray();
            for (int v = 0; v < all; v++) {
                votes[own.get(v % s)]++;
            }
            if (elected(votes).containsAll(own.subList(0, s))) {
                sure = s;
            }
        }
        return sure;
    }

    int house(int value) {
        if (!in(value, 1, 500) || houses.size() == 40) {
            return NONE;
        }
        houses.add(value);
        return houses.size() - 1;
    }

    private int pays(int value, int rate) {
        Integer small = least(today / 100, "small");
        return small != null && value < small ? value * rate / 2 : value * rate;
    }

    int rate(int pence, int what) {
        if (!in(pence, 0, 9999999) || !in(what, 0, 1) && !(what >= 10 && in(what - 10, 0, houses.size() - 1))) {
            return NONE;
        }
        for (int rate = 0; rate <= 480; rate++) {
            int tried = rate;
            int comes = houses.stream().mapToInt(value -> pays(value, tried)).sum();
            if (comes >= pence) {
                return what == 0 ? rate : what == 1 ? comes : pays(houses.get(what - 10), rate);
            }
        }
        return NONE;
    }

    int count(int what) {
        switch (what) {
            case 0: return today;
            case 1: return children.size();
            case 2: return schools.size();
            case 3: return book.size();
            case 4: return (int) book.stream().filter(t -> t.undone != NONE).count();
            case 5: return acts.size();
            case 6: return teachers.size();
            case 7: return sites.size();
            case 8: return houses.size();
            case 9: return parties.size();
            case 10: return ballots.size();
            case 11: return seats;
            case 12: return tape.length();
            default: return NONE;
        }
    }
}
