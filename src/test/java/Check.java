/** Compares answers with those that are due and counts the wrong ones. */
final class Check {
    interface Call {
        long answer();
    }

    private static int made = 0;
    private static int wrong = 0;
    private static String sentence = "";

    private Check() {
    }

    /** The document's sentence that the next checks are for: a wrong answer is told with it. */
    static void sentence(String words) {
        sentence = words;
    }

    static void same(String what, long got, long due) {
        made++;
        if (got != due) {
            wrong(what + " answered " + got + ", due is " + due);
        }
    }

    static void isTrue(String what, boolean got) {
        same(what, got ? 1 : 0, 1);
    }

    static void isFalse(String what, boolean got) {
        same(what, got ? 1 : 0, 0);
    }

    static void throwsBounds(String what, Call call) {
        throwsExactly(what, IndexOutOfBoundsException.class, call);
    }

    static void throwsArgument(String what, Call call) {
        throwsExactly(what, IllegalArgumentException.class, call);
    }

    static void throwsState(String what, Call call) {
        throwsExactly(what, IllegalStateException.class, call);
    }

    private static void throwsExactly(String what, Class<?> due, Call call) {
        made++;
        try {
            wrong(what + " answered " + call.answer() + ", due is " + due.getSimpleName());
        } catch (RuntimeException e) {
            if (e.getClass() != due) {
                wrong(what + " threw " + e + ", due is " + due.getSimpleName());
            }
        }
    }

    static void wrong(String what) {
        wrong++;
        System.out.println(sentence.isEmpty() ? what : "[" + sentence + "] " + what);
    }

    static void end() {
        System.out.println(made + " checks, " + wrong + " wrong");
        if (wrong != 0 || made == 0) {
            System.exit(1);
        }
    }
}
