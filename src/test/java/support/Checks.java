/** Answers beside what is due, and ACTS fed as texts. */
final class Checks {
    private int wrong;
    private int all;
    private String promise = "";

    void of(String what) {
        promise = what;
    }

    void due(String call, long want, long got) {
        all++;
        if (got != want) {
            wrong++;
            System.out.println(promise + ": " + call + " answered " + got + ", due is " + want);
        }
    }

    void yes(String call, boolean got) {
        due(call, 1, got ? 1 : 0);
    }

    void no(String call, boolean got) {
        due(call, 0, got ? 1 : 0);
    }

    void text(String call, String want, String got) {
        all++;
        if (!got.equals(want)) {
            wrong++;
            System.out.println(promise + ": " + call + " answered [" + got + "], due is [" + want + "]");
        }
    }

    void end() {
        System.out.println(wrong == 0 ? "all " + all + " answers are as due" : wrong + " answers are not as due");
        if (wrong != 0) {
            System.exit(1);
        }
    }

    /** Feeds a text, filled up with blanks. */
    static void feed(SchoolBoard x, String text) {
        for (int i = 0; i < text.length(); i += 20) {
            int[] five = new int[5];
            for (int j = 0; j < 20; j++) {
                int letter = i + j < text.length() ? text.charAt(i + j) : ' ';
                five[j / 4] = five[j / 4] << 8 | letter & 255;
            }
            x.feed(five[0], five[1], five[2], five[3], five[4]);
        }
    }

    static int act(SchoolBoard x, int year, String text) {
        feed(x, text);
        return x.act(text.length(), year);
    }

    static int faultOf(String text) {
        SchoolBoard x = new SchoolBoard();
        int number = act(x, 0, text);
        return number == SchoolBoard.NONE ? x.fault() : number == 0 && x.fault() == SchoolBoard.NONE ? -1 : -99;
    }

    static String written(SchoolBoard x, int year) {
        StringBuilder text = new StringBuilder();
        for (int i = 0; i < x.written(year, SchoolBoard.NONE); i++) {
            text.append((char) x.written(year, i));
        }
        return text.toString();
    }
}
