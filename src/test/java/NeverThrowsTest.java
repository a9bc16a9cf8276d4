import java.lang.reflect.InvocationTargetException;
import java.lang.reflect.Method;
import java.lang.reflect.Modifier;
import java.util.ArrayList;
import java.util.Arrays;
import java.util.Comparator;
import java.util.List;
import java.util.Random;

/** No call may throw, for any arguments in any state: all methods, with arguments at and far beyond their bounds. */
public final class NeverThrowsTest {
    private static final int RUNS = 400;
    private static final int CALLS = 512;
    private static final int[] EDGES = {Integer.MIN_VALUE, Integer.MIN_VALUE + 1, -1501, -1500, -2, -1, 0, 1, 2, 3, 4, 5, 6,
        7, 8, 9, 10, 11, 19, 20, 39, 40, 49, 50, 59, 60, 61, 99, 100, 101, 120, 121, 200, 201, 480, 500, 501, 799, 800, 801,
        2000, 2001, 9999, 10000, 999999, 9999999, 10000000, 1 << 30, Integer.MAX_VALUE - 1, Integer.MAX_VALUE};
    private static final String[] TEXTS = {"clause 1:grant 9 per pass 1;", "clause 2:pass 1 needs 0;", "clause 3:half;",
        "clause 4:count present as 2 if not(age<3 or poor=1);", "omit 3;", "clause 5:room 1;", "clause 6:teach 1 is 9999;",
        "clause 7:pay 9999 is 1;", "clause 60:cap 0;", "clause 8:rise 0;", "clause 9:fee 9999;", "clause 10:staff 9999;",
        "clause 11:", "clause 12:half if ((((((((((((age", "\u0080\u00ff", "clause 13:small 9999;"};

    public static void main(String[] args) throws IllegalAccessException {
        List<Method> methods = new ArrayList<>();
        for (Method method : SchoolBoard.class.getDeclaredMethods()) {
            if (Modifier.isPublic(method.getModifiers())) {
                methods.add(method);
            }
        }
        methods.sort(Comparator.comparing(Method::getName));
        int thrown = methods.size() == 45 ? 0 : 1;
        System.out.println(methods.size() + " methods");
        for (int seed = 0; seed < RUNS && thrown < 5; seed++) {
            thrown += run(methods, new Random(seed), seed % 4);
        }
        System.out.println(thrown == 0 ? "nothing was thrown" : "something was thrown");
        if (thrown != 0) {
            System.exit(1);
        }
    }

    /** Kind 0 draws any arguments; the others small ones, so that boards fill. */
    private static int run(List<Method> methods, Random random, int kind) throws IllegalAccessException {
        SchoolBoard board = new SchoolBoard();
        if (kind == 3) {
            board.poll(9);
            board.school(0, 0, 9999);
        }
        for (int i = 0; i < CALLS; i++) {
            Method method = methods.get(random.nextInt(methods.size()));
            if (kind > 0 && random.nextInt(20) == 0) {
                String text = TEXTS[random.nextInt(TEXTS.length)];
                Checks.act(board, board.count(0) / 100, text);
            }
            Object[] with = new Object[method.getParameterCount()];
            for (int j = 0; j < with.length; j++) {
                with[j] = argument(random, kind);
            }
            try {
                method.invoke(board, with);
            } catch (InvocationTargetException thrown) {
                System.out.println(method.getName() + Arrays.toString(with) + " threw " + thrown.getCause());
                return 1;
            }
        }
        return 0;
    }

    private static int argument(Random random, int kind) {
        if (kind == 0 || random.nextInt(10) == 0) {
            return random.nextInt(8) == 0 ? random.nextInt() : EDGES[random.nextInt(EDGES.length)];
        }
        return random.nextInt(kind == 1 ? 3 : kind == 2 ? 7 : 12);
    }
}
