import java.lang.reflect.InvocationTargetException;
import java.lang.reflect.Method;
import java.lang.reflect.Modifier;
import java.util.ArrayList;
import java.util.Comparator;
import java.util.List;

/** Every method of the face with every choice of arguments at and beyond the edges, in several states, against the Model. */
public final class EdgeArgumentsTest {
    private static final int LEAST = Integer.MIN_VALUE;
    private static final int MOST = Integer.MAX_VALUE;
    private static final int[] MANY = {LEAST, LEAST + 1, -33, -32, -2, -1, 0, 1, 2, 3, 4, 5, 6, 7, 8, 13, 14, 20, 21, 24, 25, 26, 31,
        32, 33, 63, 64, 500, 501, 999, 1000, 1001, 1 << 16, 1 << 30, MOST - 1, MOST};
    private static final int[] SOME = {LEAST, -2, -1, 0, 1, 2, 3, 4, 5, 6, 7, 12, 13, 14, 24, 25, 32, MOST};
    private static final int[] FEW = {LEAST, -1, 0, 1, 2, 3, 4, 5, 32, MOST};
    private static final int[] PARTS_OF_TEXT = {0, 0x72656374, -1};

    /** A text, then calls: a name and its arguments, parted by blanks. */
    private static final String[][] STATES = {
        {null},
        {"rectangle 1 2;", "fill 0 1 0", "saveSnapshot 1"},
        {"rectangle 1 5;ban 0 0 0;ban 0 0 1;ban 0 0 2;ban 0 0 3;ban 0 0 4;given 0 4 4;", "fill 0 1 1", "undo"},
        {"rectangle 3 4;given 0 0 0;ban 0 2 3;ban 2 3 1;ban 2 3 2;ban 2 2 1;ban 2 1 1;", "fill 0 1 1", "fill 0 2 2", "fill 0 3 3",
            "fillRow 1", "saveSnapshot 1", "fill 2 0 2"},
        {"rectangle 2 5;given 1 4 0;", "fillRow 0", "saveSnapshot 0", "fillRow 1", "saveSnapshot 1", "switchCycle 0 1 1"},
        {"rectangle 5 5;ban 4 4 0;", "fillRow 0", "fillRow 1", "fillRow 2", "saveSnapshot 0", "fillRow 3", "fillRow 4"},
        {"rectangle 5 5;given 2 2 2;ban 0 4 4;ban 4 0 0;", "fill 0 0 0", "fill 1 1 1", "fill 3 3 3", "fill 4 4 4", "propagate"},
    };

    private LatinRectangles got;
    private Model due;

    public static void main(String[] args) throws Exception {
        List<Method> face = new ArrayList<>();
        for (Method method : LatinRectangles.class.getDeclaredMethods()) {
            if (Modifier.isPublic(method.getModifiers())) {
                face.add(method);
            }
        }
        face.sort(Comparator.comparing(Method::getName));
        for (int state = 0; state < STATES.length; state++) {
            for (Method method : face) {
                new EdgeArgumentsTest().tryAll(state, method);
            }
        }
        Check.end();
    }

    private void tryAll(int state, Method method) throws Exception {
        int count = method.getParameterCount();
        int[] values = count <= 1 ? MANY : count == 2 ? SOME : count == 3 ? FEW : PARTS_OF_TEXT;
        int all = 1;
        for (int i = 0; i < count; i++) {
            all *= values.length;
        }
        for (int number = 0; number < all; number++) {
            Object[] arguments = new Object[count];
            int rest = number;
            for (int i = 0; i < count; i++) {
                arguments[i] = values[rest % values.length];
                rest /= values.length;
            }
            build(state);
            same(state, method.getName(), arguments);
            hold(state, method.getName());
        }
    }

    private void build(int state) throws Exception {
        got = new LatinRectangles();
        due = new Model();
        String text = STATES[state][0];
        if (text != null) {
            append(text);
            same(state, "parse", text.length());
        }
        // something in the buffer, so that parse has bytes to read
        append("rectangle 2 3;");
        for (int i = 1; i < STATES[state].length; i++) {
            String[] call = STATES[state][i].split(" ");
            Object[] arguments = new Object[call.length - 1];
            for (int n = 0; n < arguments.length; n++) {
                arguments[n] = Integer.parseInt(call[n + 1]);
            }
            same(state, call[0], arguments);
        }
    }

    private void append(String text) {
        for (int from = 0; from < text.length(); from += 20) {
            got.append(Texts.four(text, from), Texts.four(text, from + 4), Texts.four(text, from + 8), Texts.four(text, from + 12),
                Texts.four(text, from + 16));
            due.append(Texts.four(text, from), Texts.four(text, from + 4), Texts.four(text, from + 8), Texts.four(text, from + 12),
                Texts.four(text, from + 16));
        }
    }

    /** What the call has left behind: the same in both. */
    private void hold(int state, String name) throws Exception {
        String when = "state " + state + " behind " + name;
        Check.same(when + ": errorPosition", got.errorPosition(), due.errorPosition());
        for (int what = 0; what < 7; what++) {
            Check.same(when + ": size(" + what + ")", got.size(what), due.size(what));
        }
        for (int row = 0; row < due.size(0); row++) {
            for (int column = 0; column < due.size(1); column++) {
                Check.same(when + ": symbol", got.symbol(row, column), due.symbol(row, column));
            }
        }
        same(state, "tradeSize", 0);
        same(state, "tradeSize", 1);
        same(state, "undo");
        same(state, "size", 2);
        same(state, "append", 0, 0, 0, 0, 0);
    }

    private void same(int state, String name, Object... arguments) throws Exception {
        Class<?>[] types = new Class<?>[arguments.length];
        java.util.Arrays.fill(types, int.class);
        String answer = answer(LatinRectangles.class.getMethod(name, types), got, arguments);
        String dueAnswer = answer(Model.class.getMethod(name, types), due, arguments);
        Check.isTrue("state " + state + ": " + name + java.util.Arrays.toString(arguments) + " answered " + answer + ", due is "
            + dueAnswer, answer.equals(dueAnswer));
    }

    private static String answer(Method method, Object object, Object[] arguments) throws Exception {
        try {
            return String.valueOf(method.invoke(object, arguments));
        } catch (InvocationTargetException e) {
            return e.getCause().getClass().getName();
        }
    }
}
