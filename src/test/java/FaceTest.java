import java.lang.reflect.Constructor;
import java.lang.reflect.Field;
import java.lang.reflect.Method;
import java.lang.reflect.Modifier;
import java.nio.charset.StandardCharsets;
import java.nio.file.Files;
import java.nio.file.Path;
import java.util.Arrays;
import java.util.Set;
import java.util.TreeSet;

/** The face is the document's and nothing more, and the source keeps to the plainest rules of the language. */
public final class FaceTest {
    private static final String[] FACE = {
        "append(int,int,int,int,int)int",
        "parse(int)int IllegalArgumentException",
        "errorPosition()int",
        "size(int)int IllegalArgumentException",
        "symbol(int,int)int IndexOutOfBoundsException",
        "isGiven(int,int)boolean IndexOutOfBoundsException",
        "candidates(int,int)int IndexOutOfBoundsException",
        "forcedCells()int",
        "forced(int,int)int IllegalArgumentException",
        "emptyCell(int,int)int IllegalArgumentException",
        "uses(int)int",
        "symbolByUse(int)int",
        "completions(int)int IllegalArgumentException",
        "completed(int,int)int IndexOutOfBoundsException",
        "possible(int,int)int IndexOutOfBoundsException",
        "transversals()int",
        "transversalsThrough(int,int)int IndexOutOfBoundsException",
        "firstTransversal(int)int IndexOutOfBoundsException",
        "longestTransversal()int",
        "cycle(int,int,int)int IndexOutOfBoundsException IllegalArgumentException IllegalStateException",
        "cycleBySize(int,int)int IllegalArgumentException",
        "intercalates()int",
        "tradeSize(int)int IndexOutOfBoundsException IllegalStateException",
        "isTrade(int)boolean IndexOutOfBoundsException IllegalStateException",
        "fill(int,int,int)int IndexOutOfBoundsException IllegalArgumentException IllegalStateException",
        "empty(int,int)int IndexOutOfBoundsException IllegalStateException",
        "propagate()int",
        "fillRow(int)int IndexOutOfBoundsException IllegalStateException",
        "switchCycle(int,int,int)int IndexOutOfBoundsException IllegalArgumentException IllegalStateException",
        "undo()int",
        "saveSnapshot(int)boolean IndexOutOfBoundsException",
        "restoreSnapshot(int)int IndexOutOfBoundsException IllegalStateException",
    };

    private static final String[] FORBIDDEN = {
        "import ", "package ", "->", "::", "finally", "synchronized", "assert ", "System.", "Math.random", "try ",
        "Exact", "Float", "Double", "hashCode", "toString", "catch", "native", "volatile", "thread", "static {",
    };

    public static void main(String[] args) throws Exception {
        membersAreTheDocuments();
        membersOfNestedClassesBearOtherNames();
        sourceKeepsToTheLanguage();
        Check.same("NONE", LatinRectangles.NONE, -1);
        Check.end();
    }

    private static void membersAreTheDocuments() {
        Class<?> face = LatinRectangles.class;
        Check.isTrue("public and final", Modifier.isPublic(face.getModifiers()) && Modifier.isFinal(face.getModifiers()));
        Set<String> due = new TreeSet<>(Arrays.asList(FACE));
        Set<String> got = new TreeSet<>();
        for (Method method : face.getDeclaredMethods()) {
            if (!Modifier.isPrivate(method.getModifiers())) {
                got.add(written(method));
            }
        }
        Check.isTrue("methods " + got + ", due are " + due, got.equals(due));
        for (Field field : face.getDeclaredFields()) {
            Check.isTrue("field " + field, Modifier.isPrivate(field.getModifiers()) || field.getName().equals("NONE"));
        }
        Constructor<?>[] constructors = face.getDeclaredConstructors();
        Check.same("constructors", constructors.length, 1);
        Check.same("parameters of the constructor", constructors[0].getParameterCount(), 0);
    }

    private static String written(Method method) {
        StringBuilder text = new StringBuilder(method.getName()).append('(');
        for (int i = 0; i < method.getParameterCount(); i++) {
            text.append(i == 0 ? "" : ",").append(method.getParameterTypes()[i].getName());
        }
        text.append(')').append(method.getReturnType().getName());
        for (Class<?> thrown : method.getExceptionTypes()) {
            text.append(' ').append(thrown.getSimpleName());
        }
        return text.toString();
    }

    private static void membersOfNestedClassesBearOtherNames() {
        Set<String> names = new TreeSet<>();
        for (String member : FACE) {
            names.add(member.substring(0, member.indexOf('(')));
        }
        Class<?>[] nested = LatinRectangles.class.getDeclaredClasses();
        Check.isTrue("some twelve classes at most", nested.length <= 11);
        for (Class<?> inside : nested) {
            Check.isFalse("public " + inside, Modifier.isPublic(inside.getModifiers()));
            Check.isTrue("static " + inside, Modifier.isStatic(inside.getModifiers()));
            for (Method method : inside.getDeclaredMethods()) {
                Check.isFalse("a name of the face: " + method, names.contains(method.getName()));
                Check.isTrue("seven parameters at most: " + method, method.getParameterCount() <= 7);
            }
        }
    }

    private static void sourceKeepsToTheLanguage() throws Exception {
        byte[] bytes = Files.readAllBytes(Path.of("src/main/java/LatinRectangles.java"));
        String source = new String(bytes, StandardCharsets.ISO_8859_1);
        for (char sign : source.toCharArray()) {
            if (sign != '\n' && (sign < ' ' || sign > '~')) {
                Check.wrong("a sign of number " + (int) sign);
            }
        }
        for (String word : FORBIDDEN) {
            Check.isFalse("the source has " + word, source.contains(word));
        }
    }
}
