import java.util.ArrayList;
import java.util.List;
import java.util.Random;

/** Makes texts of ACTS, most of them sound, some spoilt in one place. */
final class ActMaker {
    private static final String[] NAMES = {"age", "standard", "day", "year", "half", "excused", "timer", "passes",
        "quarters", "subject", "mark", "poor"};
    private static final int[] REACH = {16, 7, 100, 8, 2, 2, 2, 7, 400, 6, 101, 2};
    private static final String[] STRAY = {"clause", "omit", "if", "or", "and", "not", "(", ")", ";", ":", "<", "=",
        "0", "3", "61", "99999", "00005", "half", "pass", "per", "head", "is", "as", "claus", "standards", "A", "\t",
        "+", "\u0080", "\u00e1", "needs", "late"};

    private final Random random;
    private final List<String> tokens = new ArrayList<>();

    ActMaker(Random random) {
        this.random = random;
    }

    private int below(int n) {
        return random.nextInt(n);
    }

    String make() {
        tokens.clear();
        int many = below(20) == 0 ? 38 + below(5) : 1 + below(14);
        for (int i = 0; i < many; i++) {
            if (many > 20 || below(7) == 0) {
                add("omit", "" + (1 + below(60)), ";");
            } else {
                add("clause", "" + (1 + below(30)), ":");
                body();
                add(";");
            }
        }
        if (below(5) == 0) {
            spoil();
        }
        String text = join();
        return text.length() > 800 ? text.substring(0, 800 - below(30)) : below(25) == 0 && !text.isEmpty()
                ? text.substring(0, below(text.length())) : text;
    }

    private void add(String... more) {
        for (String token : more) {
            tokens.add(token.matches("[0-9]+") && below(12) == 0 && token.length() < 4 ? "0" + token : token);
        }
    }

    private void body() {
        switch (below(18)) {
            case 0: case 1: case 2:
                add("count", new String[] {"present", "late", "work", "present"}[below(4)], "as", "" + below(3));
                maybeIf();
                break;
            case 3: case 4:
                add("excuse", "" + below(6), "as", "" + below(3));
                maybeIf();
                break;
            case 5:
                add("attend", "" + below(120));
                maybeIf();
                break;
            case 6: case 7:
                add("pass", "" + below(6), "needs", "" + below(70));
                maybeIf();
                break;
            case 8:
                add("rise", "" + below(3));
                maybeIf();
                break;
            case 9: case 10: case 11:
                add("grant", "" + below(100), "per");
                per();
                maybeIf();
                break;
            case 12:
                add("fee", "" + below(10));
                maybeIf();
                break;
            case 13:
                add("half");
                maybeIf();
                break;
            case 14:
                add("pay", "" + below(7), "is", "" + below(500));
                break;
            case 15:
                add("teach", "" + below(6), "is", "" + below(9));
                break;
            default:
                add(new String[] {"cap", "room", "staff", "step", "small"}[below(5)], "" + below(below(3) == 0 ? 500 : 40));
        }
    }

    private void per() {
        switch (below(4)) {
            case 0: add("head"); break;
            case 1: add("child"); break;
            default: add("pass", "" + below(6));
        }
    }

    private void maybeIf() {
        if (below(3) != 0) {
            add("if");
            any(below(12) == 0 ? 9 : below(3));
        }
    }

    private void any(int depth) {
        all(depth);
        for (int i = below(3); i > 1; i--) {
            add("or");
            all(depth);
        }
    }

    private void all(int depth) {
        one(depth);
        for (int i = below(3); i > 1; i--) {
            add("and");
            one(depth);
        }
    }

    private void one(int depth) {
        if (depth > 0 && below(4) != 0) {
            if (below(2) == 0) {
                add("not");
                one(depth - 1);
            } else {
                add("(");
                any(depth - 1);
                add(")");
            }
            return;
        }
        int name = below(NAMES.length);
        add(NAMES[name], new String[] {"<", ">", "="}[below(3)], "" + below(REACH[name]));
    }

    private void spoil() {
        int at = below(tokens.size());
        switch (below(4)) {
            case 0: tokens.remove(at); break;
            case 1: tokens.set(at, STRAY[below(STRAY.length)]); break;
            case 2: tokens.add(at, STRAY[below(STRAY.length)]); break;
            default:
                int opens = 8 + below(5);
                for (int i = 0; i < opens; i++) {
                    tokens.add(at, below(2) == 0 ? "not" : "(");
                }
        }
    }

    private String join() {
        StringBuilder text = new StringBuilder();
        char before = ':';
        for (String token : tokens) {
            boolean isNeeded = isKind(before, 'a', 'z') && isKind(token.charAt(0), 'a', 'z')
                    || isKind(before, '0', '9') && isKind(token.charAt(0), '0', '9');
            int gaps = isNeeded ? 1 + below(10) / 9 : below(5) / 3;
            for (int i = 0; i < gaps; i++) {
                text.append(below(6) == 0 ? '\n' : ' ');
            }
            text.append(token);
            before = token.charAt(token.length() - 1);
        }
        return text.toString();
    }

    private static boolean isKind(char c, char least, char most) {
        return c >= least && c <= most;
    }
}
