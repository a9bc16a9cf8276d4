import java.lang.reflect.InvocationTargetException;
import java.lang.reflect.Method;
import java.util.Arrays;

/** Every promise's numbers far beyond their bounds, one by one, beside others that are as told: refused, doing nothing. */
public final class FarArgumentsTest {
    private static final Checks c = new Checks();
    private static final int NO_SUCH = -1000000;
    private static final int[] FAR = {Integer.MIN_VALUE, Integer.MIN_VALUE + 1, Integer.MIN_VALUE / 2 - 1, Integer.MIN_VALUE + 10,
        -1000000, 1000000000, 1 << 30, Integer.MAX_VALUE - 9, Integer.MAX_VALUE};

    public static void main(String[] args) throws ReflectiveOperationException {
        refused("2 day", 0, 111);
        refused("3 child", -1, 0, 0, 0);
        refused("4 school", -1, 0, 0, 0);
        refused("5 street", 0, 1, 5, 5);
        refused("6 moves", 0, 1, 5);
        refused("7 enter", -1, 2, 1, 110);
        refused("8 shut", -1, 0, 100, 120);
        refused("9 mark", -1, 0, 0, 0, 110, 1, 3);
        refused("10 grantSpan", -1, 0, 0, 1, 100, 199);
        refused("11 result", -1, 0, 1, 0, 90);
        refused("12 undo", 0, 5);
        refused("13 book", -1, 5, 1);
        refused("14 on", -1, 0, 110, 110);
        refused("15 marked", -1, 0, 100, 1, 110);
        refused("16 quarters", -1, 0, 100, 1, 1, 110);
        refused("17 yearly", -1, 0, 1, 1, 110);
        refused("18 standard", -1, 0, 1, 110);
        refused("19 passes", -1, 0, 1, 1, 110);
        refused("20 grant", -1, 0, 1, 1, 110, 4);
        refused("21 line", NO_SUCH, 0, 1, 1, 110, 0, 2);
        refused("22 fees", NO_SUCH, 0, 110, 0);
        refused("23 pay", -1, 0, 5);
        refused("24 holds", -2, 0, 1);
        refused("25 teacher", -1, 0);
        refused("26 proof", 0, 0, 1, 90);
        refused("27 teacherOf", -1, 0, 1, 0);
        refused("29 act", -2, 15, 1);
        refused("31 written", -1, 1, 3);
        refused("32 clause", -1, 1, 0, 0);
        refused("33 estimate", 0, 0, 0, 90);
        refused("34 entering", -1, 0, 50, 0);
        refused("35 officer", -1, 300, 0);
        refused("36 site", -1, 5, 5);
        refused("37 sites", -1, 120, 0);
        refused("38 poll", 0, 5);
        refused("39 candidate", -1, 2);
        refused("41 heap", -1, 0, 0, 0);
        refused("42 candidateOf", -1, 0, 1);
        refused("43 sure", -1, 0);
        refused("44 house", -1, 50);
        refused("45 rate", -1, 100, 0);
        refused("46 count", -1, 3);
        c.end();
    }

    /** The promise's number and method, what is due, and arguments that are as told. */
    private static void refused(String promise, int due, int... asTold) throws ReflectiveOperationException {
        c.of(promise + ": far beyond its bounds");
        String name = promise.substring(promise.indexOf(' ') + 1);
        Class<?>[] ints = new Class<?>[asTold.length];
        Arrays.fill(ints, int.class);
        Method method = SchoolBoard.class.getMethod(name, ints);
        SchoolBoard near = State.board();
        c.due(name + Arrays.toString(asTold) + " itself isn't refused", 0, Checks.bit(call(method, near, asTold) == due));
        SchoolBoard board = State.board();
        for (int place = 0; place < asTold.length; place++) {
            for (int far : FAR) {
                int[] with = asTold.clone();
                with[place] = far;
                c.due(name + Arrays.toString(with), due, call(method, board, with));
            }
        }
        c.same(name + " does nothing", State.of(State.board()), State.of(board));
    }

    private static int call(Method method, SchoolBoard board, int[] with) throws ReflectiveOperationException {
        Object[] boxed = Arrays.stream(with).boxed().toArray();
        try {
            Object answer = method.invoke(board, boxed);
            return answer instanceof Boolean yes ? Checks.bit(yes) : (Integer) answer;
        } catch (InvocationTargetException thrown) {
            c.due(method.getName() + Arrays.toString(with) + " threw " + thrown.getCause(), 0, 1);
            return Integer.MIN_VALUE;
        }
    }
}
