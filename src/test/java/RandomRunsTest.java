import java.lang.reflect.InvocationTargetException;
import java.lang.reflect.Method;
import java.util.ArrayList;
import java.util.Comparator;
import java.util.List;
import java.util.Random;

/** Long runs of calls, the same every time, on a LatinRectangles and on the Model. */
public final class RandomRunsTest {
    private static final int OBJECTS = Integer.getInteger("objects", 250);
    private static final int CALLS = 500;
    private static final String[] OFTEN = {"fill", "fill", "fillRow", "fillRow", "switchCycle", "empty", "propagate", "undo"};

    private final Random random;
    private final LatinRectangles got = new LatinRectangles();
    private final Model due = new Model();
    private final List<String> run = new ArrayList<>();
    private int calls = 0;
    private boolean wrong = false;

    private RandomRunsTest(int seed) {
        random = new Random(seed);
    }

    public static void main(String[] args) throws Exception {
        List<Method> face = new ArrayList<>();
        for (Method method : LatinRectangles.class.getDeclaredMethods()) {
            if (java.lang.reflect.Modifier.isPublic(method.getModifiers())) {
                face.add(method);
            }
        }
        face.sort(Comparator.comparing(Method::getName));
        for (int seed = 1; seed <= OBJECTS; seed++) {
            new RandomRunsTest(seed).play(face);
        }
        Check.end();
    }

    private void play(List<Method> face) throws Exception {
        while (calls < CALLS && !wrong) {
            int kind = random.nextInt(40);
            if (kind == 0 || calls == 0) {
                parse(kind == 0 && random.nextInt(2) == 0);
            } else if (kind < 14) {
                call(method(OFTEN[random.nextInt(OFTEN.length)]), null);
            } else {
                call(face.get(random.nextInt(face.size())), null);
            }
        }
    }

    private static Method method(String name) {
        for (Method method : LatinRectangles.class.getDeclaredMethods()) {
            if (method.getName().equals(name)) {
                return method;
            }
        }
        throw new IllegalArgumentException(name);
    }

    private void parse(boolean spoil) throws Exception {
        String text = text();
        if (spoil) {
            text = spoilt(text);
        }
        // the buffer may hold rubbish of earlier calls: an empty parse clears it
        call(method("parse"), new Object[] {0});
        for (int from = 0; from < text.length(); from += 20) {
            call(method("append"), new Object[] {Texts.four(text, from), Texts.four(text, from + 4),
                Texts.four(text, from + 8), Texts.four(text, from + 12), Texts.four(text, from + 16)});
        }
        run.add("text " + text);
        call(method("parse"), new Object[] {Math.min(500, text.length())});
        call(method("errorPosition"), new Object[0]);
    }

    private String text() {
        int rows = 1 + random.nextInt(5);
        int columns = Math.max(2, rows + random.nextInt(6 - rows));
        StringBuilder text = new StringBuilder("rectangle " + rows + " " + columns + ";");
        int statements = random.nextInt(3) == 0 ? random.nextInt(26) : random.nextInt(8);
        int symbols = random.nextInt(3) == 0 ? 1 + random.nextInt(2) : columns;
        for (int n = 0; n < statements; n++) {
            text.append(random.nextInt(3) == 0 ? "given" : "ban");
            text.append(' ').append(random.nextInt(rows));
            text.append(' ').append(random.nextInt(columns));
            text.append(' ').append(random.nextInt(symbols)).append(';');
            int code = code(text.toString());
            if (code != 0 && code != 4 && random.nextInt(30) != 0) {
                text.setLength(text.substring(0, text.length() - 1).lastIndexOf(';') + 1);
            }
        }
        return text.toString();
    }

    /** Asks the Model for the code of a text, so that most texts are good ones. */
    private static int code(String text) {
        Model model = new Model();
        for (int from = 0; from < text.length(); from += 20) {
            model.append(Texts.four(text, from), Texts.four(text, from + 4), Texts.four(text, from + 8),
                Texts.four(text, from + 12), Texts.four(text, from + 16));
        }
        return model.parse(Math.min(500, text.length()));
    }

    private String spoilt(String text) {
        String signs = " \n;;019abgz~\0\u00ff";
        String[] pieces = {" ", "\n", ";", "5", "9", "06", "given", "ban", "rectangle", " 1 ", "aaaaaaaaaa", "123", "\u00e9"};
        StringBuilder spoilt = new StringBuilder(text);
        for (int n = random.nextInt(3); n >= 0; n--) {
            int at = random.nextInt(spoilt.length() + 1);
            int kind = random.nextInt(4);
            if (kind == 0) {
                spoilt.insert(at, pieces[random.nextInt(pieces.length)]);
            } else if (kind == 1 && at < spoilt.length()) {
                spoilt.setCharAt(at, signs.charAt(random.nextInt(signs.length())));
            } else if (kind == 2 && at < spoilt.length()) {
                spoilt.deleteCharAt(at);
            } else if (kind == 3 && at > 0) {
                spoilt.setLength(at);
            }
        }
        return spoilt.toString();
    }

    private void call(Method method, Object[] given) throws Exception {
        Object[] arguments = given != null ? given : arguments(method);
        String name = method.getName() + java.util.Arrays.toString(arguments);
        calls++;
        String answer = answer(method, got, arguments);
        String dueAnswer = answer(Model.class.getMethod(method.getName(), method.getParameterTypes()), due, arguments);
        run.add(name + " = " + dueAnswer);
        Check.isTrue("", true);
        if (!answer.equals(dueAnswer)) {
            wrong = true;
            Check.wrong(String.join("\n", run) + "\n" + name + " answered " + answer + ", due is " + dueAnswer);
        }
    }

    private Object[] arguments(Method method) {
        Object[] arguments = new Object[method.getParameterCount()];
        for (int i = 0; i < arguments.length; i++) {
            arguments[i] = argument(method.getName(), i);
        }
        return arguments;
    }

    private int argument(String name, int place) {
        if (random.nextInt(60) == 0) {
            return new int[] {-1, 5, Integer.MIN_VALUE, Integer.MAX_VALUE, 1000, 1001, 32, -32}[random.nextInt(8)];
        }
        switch (name) {
            case "completions":
                return random.nextInt(4) == 0 ? 1 + random.nextInt(60) : 1 + random.nextInt(3);
            case "parse":
                return random.nextInt(40);
            case "size":
                return random.nextInt(7);
            case "saveSnapshot": case "restoreSnapshot": case "tradeSize": case "isTrade":
                return random.nextInt(2);
            case "forced": case "cycleBySize":
                return random.nextInt(place == 0 ? 7 : 4);
            case "emptyCell":
                return random.nextInt(place == 0 ? 12 : 3);
            default:
                return random.nextInt(random.nextInt(5) == 0 ? 5 : due.size(place == 0 ? 0 : 1));
        }
    }

    private static String answer(Method method, Object object, Object[] arguments) throws Exception {
        try {
            return String.valueOf(method.invoke(object, arguments));
        } catch (InvocationTargetException e) {
            return e.getCause().getClass().getName();
        }
    }
}
