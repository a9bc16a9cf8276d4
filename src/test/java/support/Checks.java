import java.util.List;

/** Answers beside what is due, and ACTS fed as texts. */
final class Checks {
    /** Makes the same board each time that it's asked. */
    interface Maker {
        SchoolBoard make();
    }

    /** One call, a boolean's answer counted 1 or 0. */
    interface Call {
        int of(SchoolBoard x);
    }

    private int wrong;
    private int all;
    private String promise = "";

    void of(String what) {
        promise = what;
    }

    void due(String call, long want, long got) {
        all++;
        if (got != want) {
            wrong++;
            System.out.println(promise + ": " + call + " answered " + got + ", due is " + want);
        }
    }

    void yes(String call, boolean got) {
        due(call, 1, got ? 1 : 0);
    }

    void no(String call, boolean got) {
        due(call, 0, got ? 1 : 0);
    }

    void text(String call, String want, String got) {
        all++;
        if (!got.equals(want)) {
            wrong++;
            System.out.println(promise + ": " + call + " answered [" + got + "], due is [" + want + "]");
        }
    }

    /** A call that is refused: its answer, and that the board answers behind it as one that never had the call. */
    void refused(String call, int want, Maker maker, Call what) {
        SchoolBoard x = maker.make();
        due(call, want, what.of(x));
        same(call + " does nothing", State.of(maker.make()), State.of(x));
    }

    /** Two boards' answers, of which the first that isn't the same is told. */
    void same(String call, List<String> want, List<String> got) {
        for (int i = 0; i < want.size() && i < got.size(); i++) {
            if (!got.get(i).equals(want.get(i))) {
                text(call, want.get(i), got.get(i));
                return;
            }
        }
        due(call + ", as many answers", want.size(), got.size());
    }

    static int bit(boolean answer) {
        return answer ? 1 : 0;
    }

    void end() {
        System.out.println(wrong == 0 ? "all " + all + " answers are as due" : wrong + " answers are not as due");
        if (wrong != 0) {
            System.exit(1);
        }
    }

    /** As many CHILDREN (born on -700, of STANDARD 2, each at its STREET) and SCHOOLS (of 1000 feet) as told. */
    static SchoolBoard board(int children, int schools) {
        SchoolBoard x = new SchoolBoard();
        for (int i = 0; i < children; i++) {
            x.child(-700, i % 10, 2);
        }
        for (int i = 0; i < schools; i++) {
            x.school(i, i, 1000);
        }
        return x;
    }

    /** Feeds a text, filled up with blanks. */
    static void feed(SchoolBoard x, String text) {
        for (int i = 0; i < text.length(); i += 20) {
            int[] five = new int[5];
            for (int j = 0; j < 20; j++) {
                int letter = i + j < text.length() ? text.charAt(i + j) : ' ';
                five[j / 4] = five[j / 4] << 8 | letter & 255;
            }
            x.feed(five[0], five[1], five[2], five[3], five[4]);
        }
    }

    static int act(SchoolBoard x, int year, String text) {
        feed(x, text);
        return x.act(text.length(), year);
    }

    static int faultOf(String text) {
        SchoolBoard x = new SchoolBoard();
        int number = act(x, 0, text);
        return number == SchoolBoard.NONE ? x.fault() : number == 0 && x.fault() == SchoolBoard.NONE ? -1 : -99;
    }

    static String written(SchoolBoard x, int year) {
        StringBuilder text = new StringBuilder();
        for (int i = 0; i < x.written(year, SchoolBoard.NONE); i++) {
            text.append((char) x.written(year, i));
        }
        return text.toString();
    }
}
