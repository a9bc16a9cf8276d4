import java.util.ArrayDeque;
import java.util.ArrayList;
import java.util.Deque;
import java.util.List;
import java.util.Map;
import java.util.regex.Matcher;
import java.util.regex.Pattern;

/** An ACT read in another way than the class reads it: a list of what may come next, and a stack of what is open. */
final class PlainAct {
    /** A token as it stands in the text. */
    record Token(String text, int place) { }

    /** A statement: its NUMBER and its BODY's tokens (null of an "omit"). */
    record Statement(int number, List<String> body) {
        String kind() {
            return body.get(0);
        }

        int ifAt() {
            int at = body.indexOf("if");
            return at < 0 ? body.size() : at;
        }

        boolean isMet(Map<String, Integer> asked) {
            return ifAt() == body.size() || new Reading(body, ifAt() + 1).any().isTrue(asked);
        }

        String written() {
            List<String> tokens = new ArrayList<>(List.of("clause", Integer.toString(number), ":"));
            for (String token : body.subList(0, ifAt())) {
                tokens.add(plain(token));
            }
            if (ifAt() < body.size()) {
                tokens.add("if");
                new Reading(body, ifAt() + 1).any().write(tokens, 0);
            }
            tokens.add(";");
            StringBuilder text = new StringBuilder();
            String before = ":";
            for (String token : tokens) {
                text.append(isWordOrDigits(before) && isWordOrDigits(token) ? " " : "").append(token);
                before = token;
            }
            return text.toString();
        }
    }

    /** An IF as a tree: strength 1 of "or", 2 of "and", 3 of "not", 4 of a question. */
    record Tree(int strength, List<Tree> parts, String name, String sign, int value) {
        boolean isTrue(Map<String, Integer> asked) {
            switch (strength) {
                case 1: return parts.stream().anyMatch(p -> p.isTrue(asked));
                case 2: return parts.stream().allMatch(p -> p.isTrue(asked));
                case 3: return !parts.get(0).isTrue(asked);
                default:
                    int there = asked.getOrDefault(name, 0);
                    return sign.equals("<") ? there < value : sign.equals(">") ? there > value : there == value;
            }
        }

        void write(List<String> out, int around) {
            boolean isOpen = strength < around;
            if (isOpen) {
                out.add("(");
            }
            if (strength == 4) {
                out.addAll(List.of(name, sign, Integer.toString(value)));
            } else if (strength == 3) {
                out.add("not");
                parts.get(0).write(out, 3);
            } else {
                for (int i = 0; i < parts.size(); i++) {
                    if (i > 0) {
                        out.add(strength == 1 ? "or" : "and");
                    }
                    parts.get(i).write(out, strength);
                }
            }
            if (isOpen) {
                out.add(")");
            }
        }
    }

    /** Reads the tokens of an IF that is known to be well formed. */
    private static final class Reading {
        private final List<String> tokens;
        private int at;

        Reading(List<String> tokens, int at) {
            this.tokens = tokens;
            this.at = at;
        }

        Tree any() {
            return joined("or", 1);
        }

        private Tree joined(String word, int strength) {
            List<Tree> parts = new ArrayList<>();
            parts.add(strength == 1 ? joined("and", 2) : one());
            while (at < tokens.size() && tokens.get(at).equals(word)) {
                at++;
                parts.add(strength == 1 ? joined("and", 2) : one());
            }
            return parts.size() == 1 ? parts.get(0) : new Tree(strength, parts, null, null, 0);
        }

        private Tree one() {
            String token = tokens.get(at++);
            if (token.equals("not")) {
                return new Tree(3, List.of(one()), null, null, 0);
            }
            if (token.equals("(")) {
                Tree inner = any();
                at++;
                return inner;
            }
            String sign = tokens.get(at++);
            return new Tree(4, List.of(), token, sign, Integer.parseInt(tokens.get(at++)));
        }
    }

    private static final Pattern TOKEN = Pattern.compile("[a-z]+|[0-9]+|[^ \\n]", Pattern.DOTALL);
    private static final List<String> NAMES = List.of("age", "standard", "day", "year", "half", "excused", "timer",
            "passes", "quarters", "subject", "mark", "poor");
    private static final Map<String, String> BODIES = Map.ofEntries(
            Map.entry("count", "MARK as 0-2 IF"), Map.entry("excuse", "0-5 as 0-2 IF"),
            Map.entry("attend", "0-9999 IF"), Map.entry("pass", "0-5 needs 0-9999 IF"),
            Map.entry("rise", "0-9999 IF"), Map.entry("grant", "0-9999 per PER"), Map.entry("cap", "0-9999 ;"),
            Map.entry("fee", "0-9999 IF"), Map.entry("half", "IF"), Map.entry("room", "0-9999 ;"),
            Map.entry("staff", "0-9999 ;"), Map.entry("step", "0-9999 ;"), Map.entry("pay", "0-9999 is 0-9999 ;"),
            Map.entry("teach", "0-5 is 0-9999 ;"), Map.entry("small", "0-9999 ;"));

    final List<Statement> statements = new ArrayList<>();
    int fault = -1;
    private final Deque<String> due = new ArrayDeque<>();
    private final Deque<String> open = new ArrayDeque<>();
    private int begun;
    private int number;
    private List<String> body;

    PlainAct(String text) {
        Matcher matcher = TOKEN.matcher(text);
        while (fault < 0 && matcher.find()) {
            if (!goesOn(matcher.group())) {
                fault = matcher.start();
            }
        }
        if (fault < 0 && !due.isEmpty()) {
            fault = text.length();
        }
    }

    private boolean goesOn(String token) {
        if (due.isEmpty()) {
            return begins(token);
        }
        String next = due.pop();
        if (body != null && !next.equals(":") && !token.equals(";")) {
            body.add(token);
        }
        switch (next) {
            case "BODY": return BODIES.containsKey(token) && follow(BODIES.get(token));
            case "MARK": return List.of("present", "late", "work").contains(token);
            case "PER":
                if (token.equals("pass")) {
                    return follow("0-5 IF");
                }
                return (token.equals("head") || token.equals("child")) && follow("IF");
            case "IF": return token.equals("if") ? follow("ONE") : isEnd(token);
            case "ONE": return isOne(token);
            case "SIGN": return List.of("<", ">", "=").contains(token);
            case "BEHIND": return isBehind(token);
            case ";": return isEnd(token);
            default: return isNumberOf(next, token) || next.equals(token);
        }
    }

    private boolean begins(String token) {
        boolean isClause = token.equals("clause");
        if (begun == 40 || !isClause && !token.equals("omit")) {
            return false;
        }
        begun++;
        body = null;
        return follow(isClause ? "1-60 : BODY" : "1-60 ;");
    }

    private boolean isEnd(String token) {
        if (!token.equals(";")) {
            return false;
        }
        statements.add(new Statement(number, body));
        return true;
    }

    private boolean isNumberOf(String bounds, String token) {
        int dash = bounds.indexOf('-');
        if (dash < 0 || !token.matches("[0-9]{1,4}")) {
            return false;
        }
        int value = Integer.parseInt(token);
        if (bounds.equals("1-60")) {
            number = value;
        }
        boolean isWithin = value >= Integer.parseInt(bounds.substring(0, dash))
                && value <= Integer.parseInt(bounds.substring(dash + 1));
        if (bounds.equals("1-60") && due.contains(":")) {
            body = new ArrayList<>();
        }
        return isWithin;
    }

    private boolean isOne(String token) {
        if (token.equals("not") || token.equals("(")) {
            open.push(token);
            return open.size() <= 10 && follow("ONE");
        }
        return NAMES.contains(token) && follow("SIGN 0-9999 BEHIND");
    }

    private boolean isBehind(String token) {
        closeNots();
        if (token.equals("or") || token.equals("and")) {
            return follow("ONE");
        }
        if (token.equals(")") && !open.isEmpty()) {
            open.pop();
            return follow("BEHIND");
        }
        return open.isEmpty() && isEnd(token);
    }

    private void closeNots() {
        while (!open.isEmpty() && open.peek().equals("not")) {
            open.pop();
        }
    }

    private boolean follow(String what) {
        String[] parts = what.split(" ");
        for (int i = parts.length - 1; i >= 0; i--) {
            due.push(parts[i]);
        }
        return true;
    }

    private static String plain(String token) {
        return token.matches("[0-9]+") ? Integer.toString(Integer.parseInt(token)) : token;
    }

    private static boolean isWordOrDigits(String token) {
        return token.matches("[a-z]+|[0-9]+");
    }
}
