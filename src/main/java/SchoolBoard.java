import java.util.Arrays;

/** A school board; ../shared/DOC.md says what each call promises. */
public final class SchoolBoard {
    public static final int NONE = -1;

    private static final int NO_SUCH = -1000000;
    private static final int LAST_DAY = 799;
    private static final int LAST_YEAR = 7;
    private static final int YEAR_DAYS = 100;
    private static final int WEEK_DAYS = 5;
    private static final int SUBJECTS = 6;
    private static final int STREETS = 10;
    private static final int MOST_CHILDREN = 40;
    private static final int MOST_SCHOOLS = 6;

    // What a number in the BOOK may be.
    private static final int ENTRY = 0;
    private static final int HOLIDAY = 1;
    private static final int MARKS = 2;
    private static final int EXCUSES = 3;
    private static final int CERTIFICATE = 4;
    private static final int LET_OFF = 5;
    private static final int RESULT = 6;

    // Tokens of an ACT: a sign is its own character, a word FIRST_WORD and its place in WORDS.
    private static final int END = 0;
    private static final int OTHER = 1;
    private static final int NUMBER = 2;
    private static final int FIRST_WORD = 128;
    private static final int WORD_WIDTH = 8;
    // One behind another, each in as many characters as the longest has.
    private static final String WORDS =
            "clause  omit    count   excuse  attend  pass    rise    grant   cap     fee     room    staff   step    pay     teach   small   half    age     standardday     year    excused timer   passes  quarterssubject mark    poor    as      needs   per     head    child   is      if      or      and     not     present late    work    ";
    private static final int CLAUSE = 128;
    private static final int OMIT = 129;
    // Kinds of clauses, one behind another.
    private static final int COUNT = 130;
    private static final int EXCUSE = 131;
    private static final int ATTEND = 132;
    private static final int PASS = 133;
    private static final int RISE = 134;
    private static final int GRANT = 135;
    private static final int CAP = 136;
    private static final int FEE = 137;
    private static final int ROOM = 138;
    private static final int STAFF = 139;
    private static final int STEP = 140;
    private static final int PAY = 141;
    private static final int TEACH = 142;
    private static final int SMALL = 143;
    // "half" is both the last kind of clause and the first name that an IF may ask for.
    private static final int HALF = 144;
    private static final int POOR = 155;
    private static final int AS = 156;
    private static final int NEEDS = 157;
    private static final int PER = 158;
    private static final int HEAD = 159;
    private static final int CHILD = 160;
    private static final int IS = 161;
    private static final int IF = 162;
    private static final int OR = 163;
    private static final int AND = 164;
    private static final int NOT = 165;
    private static final int PRESENT = 166;
    private static final int WORK = 168;

    // Where in the row of what is asked each name of an IF stands: its word less HALF.
    private static final int NAMES = 12;
    private static final int ASK_HALF = 0;
    private static final int ASK_AGE = 1;
    private static final int ASK_STANDARD = 2;
    private static final int ASK_DAY = 3;
    private static final int ASK_YEAR = 4;
    private static final int ASK_EXCUSED = 5;
    private static final int ASK_TIMER = 6;
    private static final int ASK_PASSES = 7;
    private static final int ASK_QUARTERS = 8;
    private static final int ASK_SUBJECT = 9;
    private static final int ASK_MARK = 10;
    private static final int ASK_POOR = 11;

    // The mask of kinds of clauses that aren't of a MARK, an excuse, a SUBJECT or a STEP.
    private static final int ANY = 1;
    // More than any mark or number of PASSES can be.
    private static final int NEVER = 10000;

    private final Town town;
    private final People people;
    private final Book told;
    private final Code code;
    private final Register register;
    private final Grants grants;
    private final Entering entered;
    private final Poll votes;
    private int today;
    // Counts what was told, so that a reckoning knows whether it still stands.
    private int changes;

    public SchoolBoard() {
        town = new Town();
        people = new People();
        told = new Book();
        code = new Code();
        register = new Register(told, people, code);
        grants = new Grants(people, code, register);
        entered = new Entering(people, code, register);
        votes = new Poll();
        today = 0;
        changes = 0;
    }

    public boolean day(int d) {
        if (d <= today || d > LAST_DAY) {
            return false;
        }
        today = d;
        changes++;
        return true;
    }

    public int child(int born, int street, int standard) {
        boolean asTold = within(born, -1500, today) && within(street, 0, STREETS - 1) && within(standard, 0, 6);
        if (!asTold || people.children >= MOST_CHILDREN) {
            return NONE;
        }
        changes++;
        return people.addChild(born, street, standard, today / YEAR_DAYS);
    }

    public int school(int x, int y, int cubic) {
        boolean asTold = town.isPlace(x, y) && within(cubic, 0, 9999);
        if (!asTold || town.schools >= MOST_SCHOOLS) {
            return NONE;
        }
        changes++;
        return town.addSchool(x, y, cubic);
    }

    public boolean street(int street, int x, int y) {
        if (!within(street, 0, STREETS - 1) || !town.isPlace(x, y)) {
            return false;
        }
        town.placeStreet(street, x, y);
        return true;
    }

    public boolean moves(int child, int street) {
        if (!isChild(child) || !within(street, 0, STREETS - 1)) {
            return false;
        }
        people.lives[child] = street;
        return true;
    }

    public int enter(int child, int school, int day) {
        boolean asTold = isChild(child) && (school == NONE || isSchool(school)) && within(day, 0, today);
        if (!asTold) {
            return NONE;
        }
        if (told.isFilled(ENTRY)) {
            return -2;
        }
        if (school != NONE && isFull(school, child, day)) {
            return -3;
        }
        changes++;
        return told.tell(ENTRY, child, today, day, day, school);
    }

    public int shut(int school, int from, int to) {
        if (!isSchool(school) || !isSpan(from, to) || told.isFilled(HOLIDAY)) {
            return NONE;
        }
        changes++;
        return told.tell(HOLIDAY, school, today, from, to, 0);
    }

    public int mark(int child, int from, int half, int to, int toHalf, int what) {
        boolean asTold = isChild(child) && within(from, 0, today) && within(to, 0, today)
                && within(half, 0, 1) && within(toHalf, 0, 1) && within(what, 0, 3);
        if (!asTold || from * 2 + half > to * 2 + toHalf || told.isFilled(MARKS)) {
            return NONE;
        }
        changes++;
        return told.tell(MARKS, child, today, from * 2 + half, to * 2 + toHalf, what);
    }

    public int grantSpan(int child, int what, int kind, int from, int to) {
        if (!isChild(child) || !within(what, 0, 2) || !isSpan(from, to)) {
            return NONE;
        }
        if (what == 0 && !within(kind, 0, 5) || told.isFilled(EXCUSES + what)) {
            return NONE;
        }
        if (what == 1 && !register.mayWorkHalf(child, from, today)) {
            return -2;
        }
        changes++;
        return told.tell(EXCUSES + what, child, today, from, to, what == 0 ? kind : 0);
    }

    public int result(int child, int year, int subject, int mark) {
        boolean asTold = isChild(child) && within(year, 0, today / YEAR_DAYS)
                && within(subject, 0, SUBJECTS - 1) && within(mark, 0, 100);
        if (!asTold || told.isFilled(RESULT)) {
            return NONE;
        }
        changes++;
        return told.tell(RESULT, child, today, year, subject, mark);
    }

    public boolean undo(int number) {
        changes++;
        return told.takeBack(number, today);
    }

    public int book(int number, int what) {
        return told.look(number, what);
    }

    public int on(int child, int day, int known) {
        if (!isChild(child) || !isDay(day) || !isDay(known)) {
            return NONE;
        }
        register.open(day, day, known);
        register.lay(child);
        return register.placeOn(day);
    }

    public int marked(int child, int day, int half, int known) {
        if (!isChild(child) || !isDay(day) || !within(half, 0, 1) || !isDay(known)) {
            return NONE;
        }
        register.open(day, day, known);
        register.lay(child);
        return register.markOf(day, half);
    }

    public int quarters(int child, int day, int half, int code, int known) {
        boolean asTold = isChild(child) && isDay(day) && within(half, 0, 1) && isYear(code) && isDay(known);
        if (!asTold) {
            return NONE;
        }
        register.open(day, day, known);
        register.standardIn(child, day / YEAR_DAYS);
        register.lay(child);
        return register.quartersOf(day, half, code);
    }

    public int yearly(int child, int year, int code, int known) {
        if (!isChild(child) || !isYear(year) || !isYear(code) || !isDay(known)) {
            return NONE;
        }
        register.openYear(year, known);
        register.standardIn(child, year);
        register.lay(child);
        return register.quartersLaid(code);
    }

    public int standard(int child, int year, int known) {
        if (!isChild(child) || !isYear(year) || !isDay(known)) {
            return NONE;
        }
        register.openYear(year, known);
        return register.standardIn(child, year);
    }

    public int passes(int child, int year, int code, int known) {
        if (!isChild(child) || !isYear(year) || !isYear(code) || !isDay(known)) {
            return NONE;
        }
        register.openYear(year, known);
        return register.passBits(child, year, code, register.standardIn(child, year));
    }

    public int grant(int school, int year, int code, int known, int what) {
        if (!isGrant(school, year, code, known)) {
            return NONE;
        }
        grants.reckon(school, year, code, known, changes);
        return grants.look(what);
    }

    public int line(int school, int year, int code, int known, int k, int what) {
        if (!isGrant(school, year, code, known)) {
            return NO_SUCH;
        }
        grants.reckon(school, year, code, known, changes);
        return grants.lookLine(k, what);
    }

    public int fees(int child, int day, int what) {
        if (!isChild(child) || !isDay(day) || !within(what, 0, 2)) {
            return NO_SUCH;
        }
        if (what == 1) {
            return people.paid[child];
        }
        int owing = register.feesUpTo(child, day, today);
        return what == 0 ? owing : owing - people.paid[child];
    }

    public int pay(int child, int pence) {
        if (!isChild(child) || !within(pence, 1, 9999) || people.paid[child] + pence > 999999) {
            return NONE;
        }
        people.paid[child] += pence;
        return people.paid[child];
    }

    public int holds(int school, int year) {
        if (!isSchool(school) || !isYear(year)) {
            return -2;
        }
        return town.roomIn(school, code.least(year, ROOM, ANY, 0));
    }

    public int teacher(int school) {
        if (!isSchool(school) || people.teachers >= People.MOST_TEACHERS) {
            return NONE;
        }
        changes++;
        return people.addTeacher(school, today / YEAR_DAYS);
    }

    public boolean proof(int teacher, int year, int mark) {
        boolean asTold = isTeacher(teacher) && year >= people.teacherFirst[teacher]
                && year <= today / YEAR_DAYS && within(mark, 0, 100);
        if (asTold) {
            people.prove(teacher, year, mark);
        }
        return asTold;
    }

    public int teacherOf(int teacher, int year, int what) {
        boolean isThere = isTeacher(teacher) && isYear(year) && year >= people.teacherFirst[teacher];
        if (!isThere || !within(what, 0, 1)) {
            return NONE;
        }
        int step = stepOf(teacher, year);
        return what == 0 ? step : code.least(year, PAY, 1 << step, 0);
    }

    public int feed(int a, int b, int c, int d, int e) {
        if (code.fed + 20 > Code.TAPE) {
            return NONE;
        }
        code.put(a);
        code.put(b);
        code.put(c);
        code.put(d);
        code.put(e);
        return code.fed;
    }

    public int act(int n, int year) {
        if (!within(n, 0, code.fed) || !within(year, today / YEAR_DAYS, LAST_YEAR)) {
            return -2;
        }
        if (code.acts >= Code.MOST_ACTS) {
            return -3;
        }
        changes++;
        return code.take(n, year);
    }

    public int fault() {
        return code.fault;
    }

    public int written(int year, int i) {
        if (!isYear(year) || i < NONE) {
            return NONE;
        }
        return i == NONE ? code.length(year) : code.letter(year, i);
    }

    public int clause(int year, int k, int what) {
        if (!isYear(year) || k < NONE) {
            return NONE;
        }
        return k == NONE ? code.sizes[year] : code.look(year, k, what);
    }

    public boolean estimate(int child, int subject, int mark) {
        boolean asTold = isChild(child) && within(subject, 0, SUBJECTS - 1) && within(mark, NONE, 100);
        if (asTold) {
            changes++;
            people.estimates[child * SUBJECTS + subject] = mark;
        }
        return asTold;
    }

    public int entering(int school, int hours, int what) {
        boolean isAsked = within(what, 0, 2) || what >= 10 && isChild(what - 10);
        if (!isSchool(school) || !within(hours, 0, Entering.MOST_HOURS) || !isAsked) {
            return NONE;
        }
        entered.choose(school, hours, today, changes);
        return entered.look(what);
    }

    public int officer(int minutes, int what) {
        boolean isAsked = within(what, 0, 2) || within(what, 10, 9 + STREETS);
        if (!within(minutes, 0, 2000) || !isAsked) {
            return NONE;
        }
        town.leaveStreets();
        register.open(Math.max(0, today - 9), today, today);
        for (int child = 0; child < people.children; child++) {
            register.standardIn(child, today / YEAR_DAYS);
            register.lay(child);
            town.liveAt(people.lives[child], register.quartersLacking());
        }
        if (what >= 10) {
            return town.worth[what - 10];
        }
        town.chooseRound(minutes);
        return town.lookRound(what);
    }

    public int site(int x, int y) {
        if (!town.isPlace(x, y) || town.sites >= Town.MOST_SITES) {
            return NONE;
        }
        return town.addSite(x, y);
    }

    public int sites(int w, int what) {
        if (!within(w, 0, 120) || !within(what, 0, 1)) {
            return NONE;
        }
        int lived = 0;
        for (int child = 0; child < people.children; child++) {
            lived |= 1 << people.lives[child];
        }
        int set = town.fewestSites(lived, w);
        return set == NONE || what == 1 ? set : Integer.bitCount(set);
    }

    public boolean poll(int seats) {
        if (!within(seats, 1, 9)) {
            return false;
        }
        votes.begin(seats);
        return true;
    }

    public int candidate(int party) {
        if (!within(party, 0, 3) || votes.seats == 0 || votes.candidates >= Poll.MOST_CANDIDATES) {
            return NONE;
        }
        return votes.stand(party);
    }

    public int ballot() {
        if (votes.seats == 0 || votes.ballots >= Poll.MOST_BALLOTS) {
            return NONE;
        }
        return votes.cast();
    }

    public int heap(int ballot, int candidate, int votes) {
        boolean asTold = within(ballot, 0, this.votes.ballots - 1)
                && within(candidate, 0, this.votes.candidates - 1) && within(votes, 0, 9);
        return asTold ? this.votes.lay(ballot, candidate, votes) : NONE;
    }

    public int candidateOf(int candidate, int what) {
        if (!within(candidate, 0, votes.candidates - 1)) {
            return NONE;
        }
        return votes.look(candidate, what);
    }

    public int sure(int party) {
        if (!within(party, 0, 3) || votes.seats == 0) {
            return NONE;
        }
        return votes.sureOf(party);
    }

    public int house(int value) {
        if (!within(value, 1, 500) || town.houses >= Town.MOST_HOUSES) {
            return NONE;
        }
        return town.addHouse(value);
    }

    public int rate(int pence, int what) {
        boolean isAsked = within(what, 0, 1) || what >= 10 && within(what - 10, 0, town.houses - 1);
        if (!within(pence, 0, 9999999) || !isAsked) {
            return NONE;
        }
        int small = code.least(today / YEAR_DAYS, SMALL, ANY, 0);
        int least = town.leastRate(pence, small);
        if (least == NONE || what == 0) {
            return least;
        }
        return what == 1 ? town.comesAt(least, small) : town.paysAt(what - 10, least, small);
    }

    public int count(int what) {
        switch (what) {
            case 0: return today;
            case 1: return people.children;
            case 2: return town.schools;
            case 3: return told.size;
            case 4: return told.takenBack;
            case 5: return code.acts;
            case 6: return people.teachers;
            case 7: return town.sites;
            case 8: return town.houses;
            case 9: return votes.candidates;
            case 10: return votes.ballots;
            case 11: return votes.seats;
            case 12: return code.fed;
            default: return NONE;
        }
    }

    private static boolean within(int value, int least, int most) {
        return value >= least && value <= most;
    }

    private static boolean isDay(int day) {
        return within(day, 0, LAST_DAY);
    }

    private static boolean isYear(int year) {
        return within(year, 0, LAST_YEAR);
    }

    private static boolean isSpan(int from, int to) {
        return isDay(from) && isDay(to) && from <= to;
    }

    private boolean isChild(int child) {
        return within(child, 0, people.children - 1);
    }

    private boolean isSchool(int school) {
        return within(school, 0, town.schools - 1);
    }

    private boolean isTeacher(int teacher) {
        return within(teacher, 0, people.teachers - 1);
    }

    private boolean isGrant(int school, int year, int code, int known) {
        return isSchool(school) && isYear(year) && isYear(code) && isDay(known);
    }

    private boolean isFull(int school, int aside, int day) {
        int room = town.roomIn(school, code.least(day / YEAR_DAYS, ROOM, ANY, 0));
        if (room == NONE) {
            return false;
        }
        register.open(day, day, today);
        int others = 0;
        for (int child = 0; child < people.children; child++) {
            register.lay(child);
            if (child != aside && register.placeOn(day) == school) {
                others++;
            }
        }
        return others >= room;
    }

    private int stepOf(int teacher, int year) {
        int step = 1;
        for (int past = people.teacherFirst[teacher]; past < year; past++) {
            int proved = people.proofs[teacher * (LAST_YEAR + 1) + past];
            if (proved != NONE && proved >= code.least(past, STEP, ANY, 0)) {
                step++;
            }
        }
        return Math.min(step, 5);
    }

    /** STREETS, SCHOOLS, SITES and HOUSES: what stands at a place, and what is chosen among places. */
    private static final class Town {
        static final int MOST_SITES = 10;
        static final int MOST_HOUSES = 40;
        private static final int MOST_PENCE = 480;

        final int[] worth = new int[STREETS];
        private final int[] heads = new int[STREETS];
        private final int[] streetX = new int[STREETS];
        private final int[] streetY = new int[STREETS];
        private final int[] schoolX = new int[MOST_SCHOOLS];
        private final int[] schoolY = new int[MOST_SCHOOLS];
        private final int[] cubic = new int[MOST_SCHOOLS];
        private final int[] siteX = new int[MOST_SITES];
        private final int[] siteY = new int[MOST_SITES];
        private final int[] reached = new int[MOST_SITES];
        private final int[] values = new int[MOST_HOUSES];
        int schools;
        int sites;
        int houses;
        private int roundSet;
        private int roundWorth;
        private int roundMinutes;

        boolean isPlace(int x, int y) {
            return within(x, 0, 60) && within(y, 0, 60);
        }

        int addSchool(int x, int y, int feet) {
            schoolX[schools] = x;
            schoolY[schools] = y;
            cubic[schools] = feet;
            return schools++;
        }

        int addSite(int x, int y) {
            siteX[sites] = x;
            siteY[sites] = y;
            return sites++;
        }

        int addHouse(int value) {
            values[houses] = value;
            return houses++;
        }

        void placeStreet(int street, int x, int y) {
            streetX[street] = x;
            streetY[street] = y;
        }

        int roomIn(int school, int feetForOne) {
            return feetForOne == 0 ? NONE : cubic[school] / feetForOne;
        }

        void leaveStreets() {
            Arrays.fill(worth, 0);
            Arrays.fill(heads, 0);
        }

        void liveAt(int street, int lacking) {
            heads[street]++;
            worth[street] += lacking;
        }

        void chooseRound(int minutes) {
            roundSet = 0;
            roundWorth = 0;
            roundMinutes = 0;
            for (int set = 1; set < 1 << STREETS; set++) {
                tryRound(set, minutes);
            }
        }

        private void tryRound(int set, int minutes) {
            int sum = 0;
            int talking = 0;
            int farthest = 0;
            for (int street = 0; street < STREETS; street++) {
                if ((set >> street & 1) == 0) {
                    continue;
                }
                if (heads[street] == 0) {
                    return;
                }
                sum += worth[street];
                talking += heads[street] * 2;
                farthest = Math.max(farthest, streetX[street] + streetY[street]);
            }
            int taken = talking + farthest * 2;
            if (taken <= minutes && sum > roundWorth) {
                roundSet = set;
                roundWorth = sum;
                roundMinutes = taken;
            }
        }

        int lookRound(int what) {
            switch (what) {
                case 0: return roundWorth;
                case 1: return roundSet;
                case 2: return roundMinutes;
                default: return NONE;
            }
        }

        int fewestSites(int lived, int walk) {
            int far = lived;
            for (int school = 0; school < schools; school++) {
                far &= ~streetsNear(schoolX[school], schoolY[school], walk);
            }
            for (int site = 0; site < sites; site++) {
                reached[site] = streetsNear(siteX[site], siteY[site], walk);
            }
            int best = NONE;
            for (int set = 0; set < 1 << sites; set++) {
                boolean isFewer = best == NONE || Integer.bitCount(set) < Integer.bitCount(best);
                if (isFewer && (far & ~reachedBy(set)) == 0) {
                    best = set;
                }
            }
            return best;
        }

        private int reachedBy(int set) {
            int streets = 0;
            for (int site = 0; site < sites; site++) {
                if ((set >> site & 1) != 0) {
                    streets |= reached[site];
                }
            }
            return streets;
        }

        private int streetsNear(int x, int y, int walk) {
            int near = 0;
            for (int street = 0; street < STREETS; street++) {
                if (Math.abs(streetX[street] - x) + Math.abs(streetY[street] - y) <= walk) {
                    near |= 1 << street;
                }
            }
            return near;
        }

        int paysAt(int house, int pence, int small) {
            int whole = values[house] * pence;
            return values[house] < small ? whole / 2 : whole;
        }

        int comesAt(int pence, int small) {
            int sum = 0;
            for (int house = 0; house < houses; house++) {
                sum += paysAt(house, pence, small);
            }
            return sum;
        }

        int leastRate(int wanted, int small) {
            // What comes never falls as the rate rises, so the last rate that brings too little is felt for in halving steps.
            int tooLow = NONE;
            for (int stride = 256; stride > 0; stride /= 2) {
                int tried = tooLow + stride;
                if (tried <= MOST_PENCE && comesAt(tried, small) < wanted) {
                    tooLow = tried;
                }
            }
            return tooLow == MOST_PENCE ? NONE : tooLow + 1;
        }
    }

    /** CHILDREN and PUPIL TEACHERS, and what is told of them but can't be UNDONE. */
    private static final class People {
        static final int MOST_TEACHERS = 20;

        final int[] born = new int[MOST_CHILDREN];
        final int[] lives = new int[MOST_CHILDREN];
        final int[] came = new int[MOST_CHILDREN];
        final int[] cameYear = new int[MOST_CHILDREN];
        final int[] paid = new int[MOST_CHILDREN];
        final int[] estimates = new int[MOST_CHILDREN * SUBJECTS];
        final int[] teacherFirst = new int[MOST_TEACHERS];
        final int[] proofs = new int[MOST_TEACHERS * (LAST_YEAR + 1)];
        private final int[] teacherSchool = new int[MOST_TEACHERS];
        int children;
        int teachers;

        People() {
            Arrays.fill(estimates, NONE);
            Arrays.fill(proofs, NONE);
        }

        int addChild(int bornOn, int street, int standard, int year) {
            born[children] = bornOn;
            lives[children] = street;
            came[children] = standard;
            cameYear[children] = year;
            return children++;
        }

        int addTeacher(int school, int year) {
            teacherSchool[teachers] = school;
            teacherFirst[teachers] = year;
            return teachers++;
        }

        void prove(int teacher, int year, int mark) {
            int place = teacher * (LAST_YEAR + 1) + year;
            proofs[place] = Math.max(proofs[place], mark);
        }

        int ageOn(int child, int day) {
            return Math.max(0, (day - born[child]) / YEAR_DAYS);
        }

        int teachersAt(int school, int year) {
            int there = 0;
            for (int teacher = 0; teacher < teachers; teacher++) {
                if (teacherSchool[teacher] == school && teacherFirst[teacher] <= year) {
                    there++;
                }
            }
            return there;
        }
    }

    /** All that was told and can be UNDONE, with the DAYS of both; chained by CHILD, HOLIDAYS by SCHOOL. */
    private static final class Book {
        private static final int[] MOST = {150, 30, 300, 60, 30, 30, 250};
        private static final int PAGES = 850;
        private static final int OWNERS = MOST_CHILDREN + MOST_SCHOOLS;

        final int[] kind = new int[PAGES];
        final int[] from = new int[PAGES];
        final int[] to = new int[PAGES];
        final int[] value = new int[PAGES];
        private final int[] who = new int[PAGES];
        private final int[] toldOn = new int[PAGES];
        private final int[] undoneOn = new int[PAGES];
        private final int[] next = new int[PAGES];
        private final int[] head = new int[OWNERS];
        private final int[] tail = new int[OWNERS];
        private final int[] ofKind = new int[MOST.length];
        int size;
        int takenBack;

        Book() {
            Arrays.fill(head, NONE);
            Arrays.fill(tail, NONE);
        }

        boolean isFilled(int what) {
            return ofKind[what] >= MOST[what];
        }

        int tell(int what, int owner, int day, int first, int last, int told) {
            int number = size++;
            ofKind[what]++;
            kind[number] = what;
            who[number] = owner;
            toldOn[number] = day;
            undoneOn[number] = NONE;
            from[number] = first;
            to[number] = last;
            value[number] = told;
            chain(number, what == HOLIDAY ? MOST_CHILDREN + owner : owner);
            return number;
        }

        private void chain(int number, int owner) {
            next[number] = NONE;
            if (tail[owner] == NONE) {
                head[owner] = number;
            } else {
                next[tail[owner]] = number;
            }
            tail[owner] = number;
        }

        boolean takeBack(int number, int day) {
            if (!within(number, 0, size - 1) || undoneOn[number] != NONE) {
                return false;
            }
            undoneOn[number] = day;
            takenBack++;
            return true;
        }

        int look(int number, int what) {
            if (!within(number, 0, size - 1)) {
                return NONE;
            }
            switch (what) {
                case 0: return kind[number];
                case 1: return who[number];
                case 2: return toldOn[number];
                case 3: return undoneOn[number];
                default: return NONE;
            }
        }

        int firstOfChild(int child) {
            return head[child];
        }

        int firstOfSchool(int school) {
            return head[MOST_CHILDREN + school];
        }

        // Every link leads to a greater number, so a chain is never longer than the BOOK.
        int after(int number) {
            return next[number];
        }

        boolean isKnown(int number, int known) {
            return toldOn[number] <= known && (undoneOn[number] == NONE || known < undoneOn[number]);
        }
    }

    /** A part of an IF: "or" or "and" over its parts, "not" over one, or a NAME, a SIGN and a NUMBER. */
    private static final class Node {
        // Ten open in one another make fewer than thirty levels.
        private static final int DEEPEST = 40;

        private final int kind;
        private final int sign;
        private final int value;
        private Node first;
        private Node after;

        Node(int kind, int sign, int value) {
            this.kind = kind;
            this.sign = sign;
            this.value = value;
        }

        // Parts come one by one behind the last one that came.
        void join(Node last, Node part) {
            if (last == null) {
                first = part;
            } else {
                last.after = part;
            }
        }

        private static boolean isTrue(Node node, int[] asked, int depth) {
            if (node == null || depth > DEEPEST) {
                return false;
            }
            switch (node.kind) {
                case OR:
                    for (Node part = node.first; part != null; part = part.after) {
                        if (isTrue(part, asked, depth + 1)) {
                            return true;
                        }
                    }
                    return false;
                case AND:
                    for (Node part = node.first; part != null; part = part.after) {
                        if (!isTrue(part, asked, depth + 1)) {
                            return false;
                        }
                    }
                    return true;
                case NOT:
                    return !isTrue(node.first, asked, depth + 1);
                default:
                    int place = node.kind - HALF;
                    int there = place >= 0 && place < asked.length ? asked[place] : 0;
                    return node.sign == '<' ? there < node.value
                            : node.sign == '>' ? there > node.value : there == node.value;
            }
        }

        private void writeTo(StringBuilder pen, int depth) {
            if (depth > DEEPEST) {
                return;
            }
            if (kind == NOT) {
                writeWord(pen, NOT);
            }
            for (Node part = first; part != null; part = part.after) {
                if (part != first) {
                    writeWord(pen, kind);
                }
                part.writeIn(this, pen, depth + 1);
            }
            if (first == null) {
                writeWord(pen, kind);
                pen.append((char) sign);
                writeNumber(pen, value);
            }
        }

        private void writeIn(Node whole, StringBuilder pen, int depth) {
            boolean isOpen = kind == OR && whole.kind == AND || (kind == OR || kind == AND) && whole.kind == NOT;
            if (isOpen) {
                pen.append('(');
            }
            writeTo(pen, depth);
            if (isOpen) {
                pen.append(')');
            }
        }
    }

    private static void writeWord(StringBuilder pen, int word) {
        writeGap(pen);
        int start = (word - FIRST_WORD) * WORD_WIDTH;
        if (start < 0 || start + WORD_WIDTH > WORDS.length()) {
            return;
        }
        for (int i = start; i < start + WORD_WIDTH && WORDS.charAt(i) != ' '; i++) {
            pen.append(WORDS.charAt(i));
        }
    }

    private static void writeNumber(StringBuilder pen, int number) {
        writeGap(pen);
        pen.append(number);
    }

    private static void writeGap(StringBuilder pen) {
        if (pen.length() == 0) {
            return;
        }
        char last = pen.charAt(pen.length() - 1);
        if (isLetter(last) || isDigit(last)) {
            pen.append(' ');
        }
    }

    private static boolean isLetter(int sign) {
        return sign >= 'a' && sign <= 'z';
    }

    private static boolean isDigit(int sign) {
        return sign >= '0' && sign <= '9';
    }

    /** A statement of an ACT: a clause with its BODY, or (of the kind OMIT) the NUMBER that it takes away. */
    private static final class Clause {
        final int number;
        final int kind;
        // The MARK, the kind of excuse, the SUBJECT or the STEP that it is for; 0 where it's for none.
        int of;
        // Of a grant alone: HEAD, CHILD or PASS.
        int per;
        int value;
        int act;
        Node when;
        // As it's WRITTEN; an "omit" never is.
        String text = "";

        Clause(int number, int kind) {
            this.number = number;
            this.kind = kind;
        }

        boolean isFor(int mask) {
            return of >= 0 && of < 31 && (mask >> of & 1) != 0;
        }

        boolean isMet(int[] asked) {
            return when == null || Node.isTrue(when, asked, 0);
        }

        void write(StringBuilder pen) {
            pen.setLength(0);
            if (kind == OMIT) {
                return;
            }
            writeWord(pen, CLAUSE);
            writeNumber(pen, number);
            pen.append(':');
            writeWord(pen, kind);
            writeBody(pen);
            if (when != null) {
                writeWord(pen, IF);
                when.writeTo(pen, 0);
            }
            pen.append(';');
            text = pen.toString();
        }

        private void writeBody(StringBuilder pen) {
            switch (kind) {
                case COUNT:
                    writeWord(pen, PRESENT + of - 1);
                    writeTold(pen, AS);
                    break;
                case EXCUSE:
                    writeNumber(pen, of);
                    writeTold(pen, AS);
                    break;
                case PASS:
                    writeNumber(pen, of);
                    writeTold(pen, NEEDS);
                    break;
                case PAY:
                case TEACH:
                    writeNumber(pen, of);
                    writeTold(pen, IS);
                    break;
                case GRANT:
                    writeNumber(pen, value);
                    writeWord(pen, PER);
                    writeWord(pen, per);
                    if (per == PASS) {
                        writeNumber(pen, of);
                    }
                    break;
                case HALF:
                    break;
                default:
                    writeNumber(pen, value);
            }
        }

        private void writeTold(StringBuilder pen, int word) {
            writeWord(pen, word);
            writeNumber(pen, value);
        }
    }

    /** Reads an ACT: first all its tokens, then the statements, up to the first FAULT. */
    private static final class Reader {
        static final int MOST_STATEMENTS = 40;
        private static final int MOST_OPEN = 10;
        private static final int MOST_DIGITS = 4;
        private static final int GREATEST = 9999;

        final Clause[] statements = new Clause[MOST_STATEMENTS];
        int size;
        int fault = NONE;
        // One token more than there may be bytes: the END.
        private final int[] kinds = new int[Code.TAPE + 1];
        private final int[] values = new int[Code.TAPE + 1];
        private final int[] places = new int[Code.TAPE + 1];
        private int tokens;
        private int at;

        void read(byte[] tape, int n, int act) {
            scan(tape, Math.min(n, tape.length));
            size = 0;
            fault = NONE;
            at = 0;
            for (int turn = 0; turn <= MOST_STATEMENTS && fault == NONE && kinds[at] != END; turn++) {
                if (turn == MOST_STATEMENTS) {
                    refuse();
                } else {
                    statement(act);
                }
            }
        }

        private void scan(byte[] tape, int n) {
            tokens = 0;
            int i = 0;
            while (i < n) {
                int end = i + 1;
                if (isLetter(tape[i])) {
                    while (end < n && isLetter(tape[end])) {
                        end++;
                    }
                    keep(wordOf(tape, i, end), 0, i);
                } else if (isDigit(tape[i])) {
                    while (end < n && isDigit(tape[end])) {
                        end++;
                    }
                    keepNumber(tape, i, end);
                } else if (tape[i] != ' ' && tape[i] != '\n') {
                    keep(isSign(tape[i]) ? tape[i] : OTHER, 0, i);
                }
                i = end;
            }
            keep(END, 0, n);
        }

        private void keep(int kind, int value, int place) {
            if (tokens < kinds.length) {
                kinds[tokens] = kind;
                values[tokens] = value;
                places[tokens] = place;
                tokens++;
            }
        }

        private void keepNumber(byte[] tape, int from, int end) {
            if (end - from > MOST_DIGITS) {
                keep(OTHER, 0, from);
                return;
            }
            int value = 0;
            for (int i = from; i < end; i++) {
                value = value * 10 + tape[i] - '0';
            }
            keep(NUMBER, value, from);
        }

        private static boolean isSign(int sign) {
            return sign == ':' || sign == ';' || sign == '(' || sign == ')'
                    || sign == '<' || sign == '>' || sign == '=';
        }

        private static int wordOf(byte[] tape, int from, int end) {
            int length = end - from;
            if (length > WORD_WIDTH) {
                return OTHER;
            }
            for (int start = 0; start + WORD_WIDTH <= WORDS.length(); start += WORD_WIDTH) {
                int same = 0;
                while (same < length && WORDS.charAt(start + same) == tape[from + same]) {
                    same++;
                }
                if (same == length && (length == WORD_WIDTH || WORDS.charAt(start + length) == ' ')) {
                    return FIRST_WORD + start / WORD_WIDTH;
                }
            }
            return OTHER;
        }

        private void refuse() {
            if (fault == NONE) {
                fault = places[at];
            }
        }

        // Whether the next token is of that kind; it's left behind then. Behind a FAULT nothing is taken.
        private boolean take(int kind) {
            if (fault != NONE || kinds[at] != kind) {
                refuse();
                return false;
            }
            at++;
            return true;
        }

        private int number(int least, int most) {
            int value = values[at];
            if (fault != NONE || kinds[at] != NUMBER || value < least || value > most) {
                refuse();
                return 0;
            }
            at++;
            return value;
        }

        private void statement(int act) {
            int word = kinds[at];
            if (word != CLAUSE && word != OMIT) {
                refuse();
                return;
            }
            at++;
            int number = number(1, Code.GREATEST_NUMBER);
            Clause read = new Clause(number, word == OMIT ? OMIT : kindOfBody());
            read.act = act;
            readTold(read);
            if (mayAsk(read.kind) && kinds[at] == IF && take(IF)) {
                read.when = joined(OR, 0);
            }
            if (take(';') && size < MOST_STATEMENTS) {
                statements[size] = read;
                size++;
            }
        }

        private int kindOfBody() {
            int kind = take(':') ? kinds[at] : END;
            if (kind < COUNT || kind > HALF) {
                refuse();
                return END;
            }
            at++;
            return kind;
        }

        private static boolean mayAsk(int kind) {
            return kind >= COUNT && kind <= GRANT || kind == FEE || kind == HALF;
        }

        private void readTold(Clause read) {
            switch (read.kind) {
                case COUNT:
                    read.of = markWord();
                    take(AS);
                    read.value = number(0, 2);
                    break;
                case EXCUSE:
                    read.of = number(0, 5);
                    take(AS);
                    read.value = number(0, 2);
                    break;
                case PASS:
                    read.of = number(0, SUBJECTS - 1);
                    take(NEEDS);
                    read.value = number(0, GREATEST);
                    break;
                case PAY:
                    read.of = number(0, GREATEST);
                    take(IS);
                    read.value = number(0, GREATEST);
                    break;
                case TEACH:
                    read.of = number(0, SUBJECTS - 1);
                    take(IS);
                    read.value = number(0, GREATEST);
                    break;
                case GRANT:
                    read.value = number(0, GREATEST);
                    take(PER);
                    readPer(read);
                    break;
                case HALF:
                case OMIT:
                    break;
                default:
                    read.value = number(0, GREATEST);
            }
        }

        private int markWord() {
            int word = kinds[at];
            if (fault != NONE || word < PRESENT || word > WORK) {
                refuse();
                return 0;
            }
            at++;
            return word - PRESENT + 1;
        }

        private void readPer(Clause read) {
            int word = kinds[at];
            if (fault != NONE || word != HEAD && word != CHILD && word != PASS) {
                refuse();
                return;
            }
            at++;
            read.per = word;
            if (word == PASS) {
                read.of = number(0, SUBJECTS - 1);
            }
        }

        // ANY joins by "or" what ALL joins by "and"; a single part stands for itself.
        private Node joined(int word, int open) {
            Node part = word == OR ? joined(AND, open) : one(open);
            if (part == null || kinds[at] != word) {
                return part;
            }
            Node whole = new Node(word, 0, 0);
            whole.join(null, part);
            for (int turn = 0; turn < Code.TAPE && kinds[at] == word; turn++) {
                at++;
                Node next = word == OR ? joined(AND, open) : one(open);
                if (next == null) {
                    return null;
                }
                whole.join(part, next);
                part = next;
            }
            return whole;
        }

        private Node one(int open) {
            int word = kinds[at];
            if (word != NOT && word != '(') {
                return comparison();
            }
            if (open >= MOST_OPEN) {
                refuse();
                return null;
            }
            at++;
            if (word == '(') {
                Node inner = joined(OR, open + 1);
                return inner != null && take(')') ? inner : null;
            }
            Node denied = one(open + 1);
            if (denied == null) {
                return null;
            }
            Node whole = new Node(NOT, 0, 0);
            whole.join(null, denied);
            return whole;
        }

        private Node comparison() {
            int name = kinds[at];
            if (name < HALF || name > POOR) {
                refuse();
                return null;
            }
            at++;
            int sign = kinds[at];
            if (sign != '<' && sign != '>' && sign != '=') {
                refuse();
                return null;
            }
            at++;
            if (kinds[at] != NUMBER) {
                refuse();
                return null;
            }
            int value = values[at];
            at++;
            return new Node(name, sign, value);
        }
    }

    /** The tape, the ACTS taken from it, and THE CODE of each YEAR that follows from them. */
    private static final class Code {
        static final int TAPE = 800;
        static final int MOST_ACTS = 8;
        static final int GREATEST_NUMBER = 60;
        private static final int YEARS = LAST_YEAR + 1;
        private static final int KINDS = HALF - COUNT + 1;
        private static final int ROW = GREATEST_NUMBER + 1;

        final int[] sizes = new int[YEARS];
        int fed;
        int acts;
        int fault = NONE;
        private final byte[] tape = new byte[TAPE];
        private final Reader reader = new Reader();
        private final Clause[] statements = new Clause[MOST_ACTS * Reader.MOST_STATEMENTS];
        private int size;
        private final int[] actYears = new int[MOST_ACTS];
        private final StringBuilder pen = new StringBuilder();
        // The clause at each NUMBER of each YEAR, or null.
        private final Clause[] rows = new Clause[YEARS * ROW];
        // The same clauses by kinds, of one kind by NUMBERS, and where each kind of a YEAR begins.
        final Clause[] ordered = new Clause[YEARS * GREATEST_NUMBER];
        private final int[] starts = new int[YEARS * (KINDS + 1)];
        private final int[] nothingAsked = new int[NAMES];

        void put(int four) {
            for (int shift = 24; shift >= 0 && fed < TAPE; shift -= 8) {
                tape[fed] = (byte) (four >> shift);
                fed++;
            }
        }

        int take(int n, int year) {
            reader.read(tape, n, acts);
            fed = 0;
            fault = reader.fault;
            if (fault != NONE || size + reader.size > statements.length) {
                return NONE;
            }
            for (int i = 0; i < reader.size; i++) {
                Clause read = reader.statements[i];
                if (read != null) {
                    read.write(pen);
                    statements[size] = read;
                    size++;
                }
            }
            actYears[acts] = year;
            acts++;
            for (int told = year; told < YEARS; told++) {
                tellYear(told);
            }
            return acts - 1;
        }

        private void tellYear(int year) {
            for (int number = 0; number < ROW; number++) {
                rows[year * ROW + number] = null;
            }
            for (int from = 0; from <= year; from++) {
                for (int i = 0; i < size; i++) {
                    Clause read = statements[i];
                    if (read != null && actYears[read.act] == from) {
                        rows[year * ROW + read.number] = read.kind == OMIT ? null : read;
                    }
                }
            }
            orderKinds(year);
        }

        private void orderKinds(int year) {
            int next = year * GREATEST_NUMBER;
            for (int kind = COUNT; kind <= HALF; kind++) {
                starts[year * (KINDS + 1) + kind - COUNT] = next;
                for (int number = 1; number < ROW; number++) {
                    Clause there = rows[year * ROW + number];
                    if (there != null && there.kind == kind) {
                        ordered[next] = there;
                        next++;
                    }
                }
            }
            starts[year * (KINDS + 1) + KINDS] = next;
            sizes[year] = next - year * GREATEST_NUMBER;
        }

        int firstOf(int year, int kind) {
            return starts[year * (KINDS + 1) + kind - COUNT];
        }

        int endOf(int year, int kind) {
            return starts[year * (KINDS + 1) + kind - COUNT + 1];
        }

        // What the first clause tells of that kind and of one in the mask, whose IF holds.
        int tells(int year, int kind, int mask, int[] asked, int otherwise) {
            int end = endOf(year, kind);
            for (int i = firstOf(year, kind); i < end; i++) {
                Clause there = ordered[i];
                if (there != null && there.isFor(mask) && (there.when == null || Node.isTrue(there.when, asked, 0))) {
                    return there.value;
                }
            }
            return otherwise;
        }

        // The same of kinds that have no IF.
        int least(int year, int kind, int mask, int otherwise) {
            return tells(year, kind, mask, nothingAsked, otherwise);
        }

        int length(int year) {
            int sum = 0;
            for (int number = 1; number < ROW; number++) {
                Clause there = rows[year * ROW + number];
                sum += there == null ? 0 : there.text.length();
            }
            return sum;
        }

        int letter(int year, int i) {
            int left = i;
            for (int number = 1; number < ROW; number++) {
                Clause there = rows[year * ROW + number];
                if (there == null) {
                    continue;
                }
                if (left < there.text.length()) {
                    return there.text.charAt(left);
                }
                left -= there.text.length();
            }
            return NONE;
        }

        int look(int year, int k, int what) {
            int left = k;
            for (int number = 1; number < ROW; number++) {
                Clause there = rows[year * ROW + number];
                if (there == null) {
                    continue;
                }
                if (left == 0) {
                    return what == 0 ? number : what == 1 ? there.act : NONE;
                }
                left--;
            }
            return NONE;
        }
    }

    /** What the BOOK tells of one CHILD over the DAYS of one window (of a YEAR at most) as KNOWN by a DAY. */
    private static final class Register {
        final int[] asked = new int[NAMES];
        // The marks in each SUBJECT of the YEAR whose PASSES were told last; NONE where there is none.
        final int[] marksIn = new int[SUBJECTS];
        private final Book book;
        private final People people;
        private final Code code;
        private final int[] place = new int[YEAR_DAYS];
        private final int[] since = new int[YEAR_DAYS];
        private final int[] halves = new int[2 * YEAR_DAYS];
        private final int[] excuses = new int[YEAR_DAYS];
        private final int[] timers = new int[YEAR_DAYS];
        private final int[] letOffs = new int[YEAR_DAYS];
        private final int[] shutSchools = new int[YEAR_DAYS];
        // STANDARDS of the CHILD of whom they were asked last, up to the YEAR that was asked for.
        private final int[] standards = new int[LAST_YEAR + 1];
        private int from;
        private int to;
        private int known;
        private int child;

        Register(Book book, People people, Code code) {
            this.book = book;
            this.people = people;
            this.code = code;
        }

        void openYear(int year, int knownBy) {
            open(year * YEAR_DAYS, year * YEAR_DAYS + YEAR_DAYS - 1, knownBy);
        }

        void open(int first, int last, int knownBy) {
            from = first;
            to = Math.min(last, first + YEAR_DAYS - 1);
            known = knownBy;
            for (int i = 0; i <= to - from; i++) {
                shutSchools[i] = 0;
            }
            for (int school = 0; school < MOST_SCHOOLS; school++) {
                int n = book.firstOfSchool(school);
                for (int left = book.size; left > 0 && n != NONE; left--) {
                    if (book.isKnown(n, known)) {
                        layBits(shutSchools, n, school);
                    }
                    n = book.after(n);
                }
            }
        }

        private void layBits(int[] row, int n, int bit) {
            int last = Math.min(to, book.to[n]);
            for (int day = Math.max(from, book.from[n]); day <= last; day++) {
                row[day - from] |= 1 << bit;
            }
        }

        void lay(int laid) {
            child = laid;
            for (int i = 0; i <= to - from; i++) {
                place[i] = NONE;
                since[i] = NONE;
                halves[2 * i] = 0;
                halves[2 * i + 1] = 0;
                excuses[i] = 0;
                timers[i] = 0;
                letOffs[i] = 0;
            }
            int n = book.firstOfChild(child);
            for (int left = book.size; left > 0 && n != NONE; left--) {
                if (book.isKnown(n, known)) {
                    layNumber(n);
                }
                n = book.after(n);
            }
        }

        private void layNumber(int n) {
            switch (book.kind[n]) {
                case ENTRY:
                    layEntry(n);
                    break;
                case MARKS:
                    layMarks(n);
                    break;
                case EXCUSES:
                    layBits(excuses, n, book.value[n]);
                    break;
                case CERTIFICATE:
                    layBits(timers, n, 0);
                    break;
                case LET_OFF:
                    layBits(letOffs, n, 0);
                    break;
                default:
                    break;
            }
        }

        private void layEntry(int n) {
            int entered = book.from[n];
            for (int day = Math.max(from, entered); day <= to; day++) {
                if (since[day - from] <= entered) {
                    since[day - from] = entered;
                    place[day - from] = book.value[n];
                }
            }
        }

        private void layMarks(int n) {
            int last = Math.min(to * 2 + 1, book.to[n]);
            for (int half = Math.max(from * 2, book.from[n]); half <= last; half++) {
                halves[half - from * 2] = book.value[n];
            }
        }

        int placeOn(int day) {
            return within(day, from, to) ? place[day - from] : NONE;
        }

        int markOf(int day, int half) {
            return within(day, from, to) && within(half, 0, 1) ? halves[(day - from) * 2 + half] : 0;
        }

        int daysOpen(int school) {
            int open = 0;
            for (int day = from; day <= to; day++) {
                open += isShut(school, day) ? 0 : 1;
            }
            return open;
        }

        private boolean isShut(int school, int day) {
            return (shutSchools[day - from] >> school & 1) != 0;
        }

        private boolean isTaught(int day) {
            int school = placeOn(day);
            return school != NONE && !isShut(school, day);
        }

        int quartersOf(int day, int half, int codeYear) {
            if (!isTaught(day)) {
                return 0;
            }
            int what = markOf(day, half);
            int kinds = excuses[day - from];
            if (what == 0 && kinds == 0) {
                return 0;
            }
            askDay(day);
            asked[ASK_HALF] = half;
            asked[ASK_EXCUSED] = kinds == 0 ? 0 : 1;
            asked[ASK_POOR] = letOffs[day - from];
            return what == 0 ? code.tells(codeYear, EXCUSE, kinds, asked, 0)
                    : code.tells(codeYear, COUNT, 1 << what, asked, 0);
        }

        private void askDay(int day) {
            Arrays.fill(asked, 0);
            int year = day / YEAR_DAYS;
            asked[ASK_AGE] = people.ageOn(child, day);
            asked[ASK_STANDARD] = standards[year];
            asked[ASK_DAY] = day % YEAR_DAYS;
            asked[ASK_YEAR] = year;
            asked[ASK_TIMER] = timers[day - from];
        }

        int quartersLaid(int codeYear) {
            int sum = 0;
            for (int day = from; day <= to; day++) {
                sum += quartersOf(day, 0, codeYear) + quartersOf(day, 1, codeYear);
            }
            return sum;
        }

        int quartersLaidAt(int school, int codeYear) {
            int sum = 0;
            for (int day = from; day <= to; day++) {
                if (placeOn(day) == school) {
                    sum += quartersOf(day, 0, codeYear) + quartersOf(day, 1, codeYear);
                }
            }
            return sum;
        }

        int quartersLacking() {
            int lacking = 0;
            for (int day = from; day <= to; day++) {
                if (isTaught(day)) {
                    int year = day / YEAR_DAYS;
                    lacking += 4 - quartersOf(day, 0, year) - quartersOf(day, 1, year);
                }
            }
            return lacking;
        }

        // What is asked of a CHILD as of a YEAR's last DAY.
        void askYear(int of, int year, int standard) {
            int last = year * YEAR_DAYS + YEAR_DAYS - 1;
            Arrays.fill(asked, 0);
            asked[ASK_AGE] = people.ageOn(of, last);
            asked[ASK_STANDARD] = standard;
            asked[ASK_YEAR] = year;
            asked[ASK_TIMER] = isSpanned(of, CERTIFICATE, last) ? 1 : 0;
            asked[ASK_POOR] = isSpanned(of, LET_OFF, last) ? 1 : 0;
        }

        private boolean isSpanned(int of, int kind, int day) {
            int n = book.firstOfChild(of);
            for (int left = book.size; left > 0 && n != NONE; left--) {
                if (book.kind[n] == kind && within(day, book.from[n], book.to[n]) && book.isKnown(n, known)) {
                    return true;
                }
                n = book.after(n);
            }
            return false;
        }

        // Leaves what is asked as of the YEAR, without a SUBJECT, for those who ask on.
        int passBits(int of, int year, int codeYear, int standard) {
            Arrays.fill(marksIn, NONE);
            int n = book.firstOfChild(of);
            for (int left = book.size; left > 0 && n != NONE; left--) {
                if (book.kind[n] == RESULT && book.from[n] == year && book.isKnown(n, known)) {
                    marksIn[book.to[n]] = book.value[n];
                }
                n = book.after(n);
            }
            askYear(of, year, standard);
            int bits = 0;
            for (int subject = 0; subject < SUBJECTS; subject++) {
                if (marksIn[subject] != NONE && isPass(subject, marksIn[subject], codeYear)) {
                    bits |= 1 << subject;
                }
            }
            return bits;
        }

        boolean isPass(int subject, int marks, int codeYear) {
            askSubject(subject, marks);
            boolean isPassed = marks >= code.tells(codeYear, PASS, 1 << subject, asked, NEVER);
            askSubject(0, 0);
            return isPassed;
        }

        void askSubject(int subject, int marks) {
            asked[ASK_SUBJECT] = subject;
            asked[ASK_MARK] = marks;
        }

        // Must be asked before a CHILD's QUARTERS or FEES are: their IFs look at the STANDARDS that it leaves.
        int standardIn(int of, int year) {
            int standard = people.came[of];
            for (int told = 0; told <= year; told++) {
                standards[told] = standard;
                if (told < people.cameYear[of] || told == year || standard == 6) {
                    continue;
                }
                int passed = Integer.bitCount(passBits(of, told, told, standard));
                asked[ASK_PASSES] = passed;
                if (passed >= code.tells(told, RISE, ANY, asked, NEVER)) {
                    standard++;
                }
            }
            return standard;
        }

        boolean mayWorkHalf(int of, int day, int knownBy) {
            open(day, day, knownBy);
            int year = day / YEAR_DAYS;
            int standard = standardIn(of, year);
            Arrays.fill(asked, 0);
            asked[ASK_AGE] = people.ageOn(of, day);
            asked[ASK_STANDARD] = standard;
            asked[ASK_YEAR] = year;
            return code.tells(year, HALF, ANY, asked, NONE) != NONE;
        }

        int feesUpTo(int of, int day, int knownBy) {
            int sum = 0;
            for (int year = 0; year * YEAR_DAYS <= day; year++) {
                open(year * YEAR_DAYS, Math.min(day, year * YEAR_DAYS + YEAR_DAYS - 1), knownBy);
                standardIn(of, year);
                lay(of);
                for (int first = from; first <= to; first += WEEK_DAYS) {
                    sum += feeFor(first);
                }
            }
            return sum;
        }

        private int feeFor(int day) {
            if (!isTaught(day) || letOffs[day - from] != 0) {
                return 0;
            }
            askDay(day);
            return code.tells(day / YEAR_DAYS, FEE, ANY, asked, 0);
        }
    }

    /** The GRANT that was reckoned last, LINE by LINE. */
    private static final class Grants {
        // Sixty clauses for each CHILD and for the heads, and the cap.
        private static final int MOST_LINES = Code.GREATEST_NUMBER * (MOST_CHILDREN + 1) + 1;

        private final People people;
        private final Code code;
        private final Register register;
        private final int[] lineChild = new int[MOST_LINES];
        private final int[] lineClause = new int[MOST_LINES];
        private final int[] linePence = new int[MOST_LINES];
        private final int[] quarterSums = new int[MOST_CHILDREN];
        private final int[] standards = new int[MOST_CHILDREN];
        private final boolean[] isThere = new boolean[MOST_CHILDREN];
        private int lines;
        private int average;
        private int daysOpen;
        private int children;
        private int covered;
        private int sum;
        private int school = NONE;
        private int year;
        private int codeYear;
        private int known;
        private int changes;

        Grants(People people, Code code, Register register) {
            this.people = people;
            this.code = code;
            this.register = register;
        }

        void reckon(int ofSchool, int ofYear, int byCode, int knownBy, int changesSoFar) {
            boolean stands = school == ofSchool && year == ofYear && codeYear == byCode
                    && known == knownBy && changes == changesSoFar;
            if (stands) {
                return;
            }
            school = ofSchool;
            year = ofYear;
            codeYear = byCode;
            known = knownBy;
            changes = changesSoFar;
            lines = 0;
            sum = 0;
            reckonAverage();
            int staff = code.least(codeYear, STAFF, ANY, NONE);
            covered = staff == NONE ? NONE : staff * (1 + people.teachersAt(school, year));
            addHeads();
            for (int child = 0; child < people.children; child++) {
                if (isThere[child]) {
                    addChildsLines(child);
                }
            }
            addCap();
        }

        private void reckonAverage() {
            register.openYear(year, known);
            daysOpen = register.daysOpen(school);
            children = 0;
            int quarterSum = 0;
            for (int child = 0; child < people.children; child++) {
                standards[child] = register.standardIn(child, year);
                register.lay(child);
                isThere[child] = register.placeOn(year * YEAR_DAYS + YEAR_DAYS - 1) == school;
                quarterSum += register.quartersLaidAt(school, codeYear);
                if (isThere[child]) {
                    children++;
                    quarterSums[child] = register.quartersLaid(codeYear);
                }
            }
            average = daysOpen == 0 ? 0 : quarterSum / (4 * daysOpen);
        }

        private void addHeads() {
            int[] asked = register.asked;
            Arrays.fill(asked, 0);
            asked[ASK_YEAR] = year;
            int heads = covered == NONE ? average : Math.min(average, covered);
            int end = code.endOf(codeYear, GRANT);
            for (int i = code.firstOf(codeYear, GRANT); i < end; i++) {
                Clause there = code.ordered[i];
                if (there != null && there.per == HEAD && there.isMet(asked)) {
                    add(NONE, there.number, there.value * heads);
                }
            }
        }

        private void addChildsLines(int child) {
            int bits = register.passBits(child, year, codeYear, standards[child]);
            int[] asked = register.asked;
            asked[ASK_PASSES] = Integer.bitCount(bits);
            asked[ASK_QUARTERS] = quarterSums[child];
            if (quarterSums[child] < code.tells(codeYear, ATTEND, ANY, asked, 0)) {
                return;
            }
            int end = code.endOf(codeYear, GRANT);
            for (int i = code.firstOf(codeYear, GRANT); i < end; i++) {
                Clause there = code.ordered[i];
                if (there == null || there.per == HEAD || there.per == PASS && !there.isFor(bits)) {
                    continue;
                }
                if (there.per == PASS) {
                    register.askSubject(there.of, register.marksIn[there.of]);
                }
                if (there.isMet(asked)) {
                    add(child, there.number, there.value);
                }
                register.askSubject(0, 0);
            }
        }

        private void addCap() {
            int first = code.firstOf(codeYear, CAP);
            Clause cap = first < code.endOf(codeYear, CAP) ? code.ordered[first] : null;
            if (cap != null && sum > cap.value * average) {
                add(NONE, cap.number, cap.value * average - sum);
            }
        }

        private void add(int child, int number, int pence) {
            if (lines < MOST_LINES) {
                lineChild[lines] = child;
                lineClause[lines] = number;
                linePence[lines] = pence;
                lines++;
                sum += pence;
            }
        }

        int look(int what) {
            switch (what) {
                case 0: return average;
                case 1: return daysOpen;
                case 2: return children;
                case 3: return covered;
                case 4: return sum;
                case 5: return lines;
                default: return NONE;
            }
        }

        int lookLine(int k, int what) {
            if (!within(k, 0, lines - 1)) {
                return NO_SUCH;
            }
            switch (what) {
                case 0: return lineChild[k];
                case 1: return lineClause[k];
                case 2: return linePence[k];
                default: return NO_SUCH;
            }
        }
    }

    /** Which CHILDREN of a SCHOOL to enter for which SUBJECTS. */
    private static final class Entering {
        static final int MOST_HOURS = 200;
        private static final int ROW = MOST_HOURS + 1;
        private static final int SETS = 1 << SUBJECTS;

        private final People people;
        private final Code code;
        private final Register register;
        // The CHILDREN ON the SCHOOL, by numbers.
        private final int[] members = new int[MOST_CHILDREN];
        private final int[] passable = new int[MOST_CHILDREN];
        private final int[] pence = new int[MOST_CHILDREN * SETS];
        private final int[] hoursOf = new int[SETS];
        // The most pence from a member on and all behind it within so many hours.
        private final int[] best = new int[(MOST_CHILDREN + 1) * ROW];
        private final int[] sets = new int[MOST_CHILDREN];
        private final int[] gains = new int[SUBJECTS * (SUBJECTS + 1)];
        private int size;
        private int hoursTaken;
        private int untaught;
        private int school = NONE;
        private int hours;
        private int changes;

        Entering(People people, Code code, Register register) {
            this.people = people;
            this.code = code;
            this.register = register;
        }

        void choose(int ofSchool, int withinHours, int today, int changesSoFar) {
            if (school == ofSchool && hours == withinHours && changes == changesSoFar) {
                return;
            }
            school = ofSchool;
            hours = withinHours;
            changes = changesSoFar;
            int year = today / YEAR_DAYS;
            reckonHours(year);
            size = 0;
            register.openYear(year, today);
            for (int child = 0; child < people.children; child++) {
                register.lay(child);
                if (register.placeOn(today) == school) {
                    members[size] = child;
                    reckonMember(year);
                    size++;
                }
            }
            fillBest();
            pickSets();
        }

        private void reckonHours(int year) {
            for (int subject = 0; subject < SUBJECTS; subject++) {
                int bit = 1 << subject;
                int needed = code.least(year, TEACH, bit, 1);
                for (int lesser = 0; lesser < bit; lesser++) {
                    hoursOf[bit + lesser] = needed + hoursOf[lesser];
                }
            }
        }

        private void reckonMember(int year) {
            int child = members[size];
            int standard = register.standardIn(child, year);
            int quarterSum = register.quartersLaid(year);
            register.askYear(child, year, standard);
            int bits = 0;
            for (int subject = 0; subject < SUBJECTS; subject++) {
                int marks = people.estimates[child * SUBJECTS + subject];
                if (marks != NONE && register.isPass(subject, marks, year)) {
                    bits |= 1 << subject;
                }
            }
            passable[size] = bits;
            register.asked[ASK_QUARTERS] = quarterSum;
            for (int subject = 0; subject < SUBJECTS; subject++) {
                register.askSubject(subject, people.estimates[child * SUBJECTS + subject]);
                reckonGains(subject, year);
            }
            for (int set = 0; set < SETS; set++) {
                pence[size * SETS + set] = penceOf(set);
            }
        }

        // What a PASS in a SUBJECT brings if so many PASSES are had in all.
        private void reckonGains(int subject, int year) {
            int end = code.endOf(year, GRANT);
            for (int passed = 1; passed <= SUBJECTS; passed++) {
                register.asked[ASK_PASSES] = passed;
                int gain = 0;
                for (int i = code.firstOf(year, GRANT); i < end; i++) {
                    Clause there = code.ordered[i];
                    if (there != null && there.per == PASS && there.of == subject && there.isMet(register.asked)) {
                        gain += there.value;
                    }
                }
                gains[subject * (SUBJECTS + 1) + passed] = gain;
            }
        }

        private int penceOf(int set) {
            int passed = Integer.bitCount(set);
            int all = 0;
            for (int subject = 0; subject < SUBJECTS; subject++) {
                if ((set >> subject & 1) != 0) {
                    all += gains[subject * (SUBJECTS + 1) + passed];
                }
            }
            return all;
        }

        private void fillBest() {
            for (int h = 0; h <= hours; h++) {
                best[size * ROW + h] = 0;
            }
            for (int member = size - 1; member >= 0; member--) {
                for (int h = 0; h <= hours; h++) {
                    best[member * ROW + h] = best[(member + 1) * ROW + h];
                }
                for (int set = 1; set < SETS; set++) {
                    if ((set & ~passable[member]) == 0) {
                        tryAll(member, set);
                    }
                }
            }
        }

        private void tryAll(int member, int set) {
            int gain = pence[member * SETS + set];
            int needed = hoursOf[set];
            for (int h = needed; h <= hours; h++) {
                int had = gain + best[(member + 1) * ROW + h - needed];
                if (had > best[member * ROW + h]) {
                    best[member * ROW + h] = had;
                }
            }
        }

        private void pickSets() {
            Arrays.fill(sets, 0);
            untaught = 0;
            int left = hours;
            for (int member = 0; member < size; member++) {
                int set = leastSet(member, left);
                sets[members[member]] = set;
                left -= hoursOf[set];
                untaught += set == 0 ? 1 : 0;
            }
            hoursTaken = hours - left;
        }

        private int leastSet(int member, int left) {
            for (int set = 0; set < SETS; set++) {
                boolean mayBe = (set & ~passable[member]) == 0 && hoursOf[set] <= left;
                if (mayBe && pence[member * SETS + set] + best[(member + 1) * ROW + left - hoursOf[set]]
                        == best[member * ROW + left]) {
                    return set;
                }
            }
            return 0;
        }

        int look(int what) {
            switch (what) {
                case 0: return best[hours];
                case 1: return hoursTaken;
                case 2: return untaught;
                default: return within(what - 10, 0, MOST_CHILDREN - 1) ? sets[what - 10] : NONE;
            }
        }
    }

    /** SEATS, CANDIDATES and BALLOTS with their heaps of votes. */
    private static final class Poll {
        static final int MOST_CANDIDATES = 10;
        static final int MOST_BALLOTS = 60;

        int seats;
        int candidates;
        int ballots;
        private final int[] parties = new int[MOST_CANDIDATES];
        private final int[] sums = new int[MOST_CANDIDATES];
        private final int[] tried = new int[MOST_CANDIDATES];
        private final int[] heaps = new int[MOST_BALLOTS * MOST_CANDIDATES];
        private final int[] given = new int[MOST_BALLOTS];

        void begin(int forSeats) {
            seats = forSeats;
            candidates = 0;
            ballots = 0;
            Arrays.fill(sums, 0);
            Arrays.fill(heaps, 0);
            Arrays.fill(given, 0);
        }

        int stand(int party) {
            parties[candidates] = party;
            return candidates++;
        }

        int cast() {
            return ballots++;
        }

        int lay(int ballot, int candidate, int many) {
            int place = ballot * MOST_CANDIDATES + candidate;
            int more = many - heaps[place];
            if (given[ballot] + more > seats) {
                return NONE;
            }
            heaps[place] = many;
            given[ballot] += more;
            sums[candidate] += more;
            return seats - given[ballot];
        }

        int look(int candidate, int what) {
            switch (what) {
                case 0: return parties[candidate];
                case 1: return sums[candidate];
                case 2:
                    int rank = rankOf(candidate, sums);
                    return rank < seats ? rank : NONE;
                default: return NONE;
            }
        }

        private int rankOf(int candidate, int[] votes) {
            int ahead = 0;
            for (int other = 0; other < candidates; other++) {
                boolean isTieWon = votes[other] == votes[candidate] && other < candidate;
                if (votes[other] > votes[candidate] || isTieWon) {
                    ahead++;
                }
            }
            return ahead;
        }

        int sureOf(int party) {
            int own = 0;
            int votes = 0;
            for (int candidate = 0; candidate < candidates; candidate++) {
                if (parties[candidate] == party) {
                    own++;
                    votes += sums[candidate];
                }
            }
            for (int many = Math.min(own, seats); many > 0; many--) {
                if (areElected(party, many, votes)) {
                    return many;
                }
            }
            return 0;
        }

        private boolean areElected(int party, int many, int votes) {
            int laid = 0;
            for (int candidate = 0; candidate < candidates; candidate++) {
                tried[candidate] = sums[candidate];
                if (parties[candidate] == party) {
                    tried[candidate] = laid < many ? votes / many + (laid < votes % many ? 1 : 0) : 0;
                    laid++;
                }
            }
            laid = 0;
            for (int candidate = 0; candidate < candidates && laid < many; candidate++) {
                if (parties[candidate] == party) {
                    laid++;
                    if (rankOf(candidate, tried) >= seats) {
                        return false;
                    }
                }
            }
            return true;
        }
    }
}
