import java.lang.reflect.Constructor;
import java.lang.reflect.Field;
import java.lang.reflect.Method;
import java.lang.reflect.Modifier;
import java.util.Arrays;
import java.util.TreeSet;

/** The class has the face of the document and nothing more. */
public final class FaceTest {
    private static final String[] FACE = {
        "int feed(int, int, int, int, int) IllegalStateException",
        "int trim(int) IllegalArgumentException",
        "int teach()",
        "int errorAt()",
        "int comma(int, int, int, int) IllegalArgumentException IllegalStateException",
        "int passNights(int) IllegalArgumentException",
        "int end()",
        "int flocks()",
        "int geese()",
        "int commas()",
        "int nights()",
        "int phase()",
        "int allowance()",
        "int greatestHour()",
        "int watermark()",
        "int lateInAll()",
        "int tellings()",
        "int hourOf(int) IndexOutOfBoundsException",
        "int flocksOf(int) IndexOutOfBoundsException",
        "boolean isIn(int, int) IndexOutOfBoundsException",
        "int sizeOf(int) IndexOutOfBoundsException",
        "int latestIn(int) IndexOutOfBoundsException",
        "int flockOf(int) IndexOutOfBoundsException",
        "int lateFor(int) IndexOutOfBoundsException",
        "int openWindows(int) IndexOutOfBoundsException",
        "int openStart(int, int) IndexOutOfBoundsException",
        "int openEnd(int, int) IndexOutOfBoundsException",
        "int openCount(int, int) IndexOutOfBoundsException",
        "int openValue(int, int) IndexOutOfBoundsException",
        "int tellingGoose(int) IndexOutOfBoundsException",
        "int tellingStart(int) IndexOutOfBoundsException",
        "int tellingEnd(int) IndexOutOfBoundsException",
        "int tellingCount(int) IndexOutOfBoundsException",
        "int tellingValue(int) IndexOutOfBoundsException",
        "int fullestTelling()",
        "boolean wouldTake(int, int, int, int, int) IndexOutOfBoundsException IllegalArgumentException",
        "int wouldBeLate(int) IllegalArgumentException",
        "int wouldTell(int) IllegalArgumentException",
        "int hourToTell(int) IndexOutOfBoundsException",
        "int nightsUntilTelling()",
        "double meanCount()",
        "long digest()",
    };

    public static void main(String[] args) {
        Check check = new Check();
        TreeSet<String> due = new TreeSet<>(Arrays.asList(FACE));
        TreeSet<String> names = new TreeSet<>();
        for (String line : FACE) {
            names.add(line.substring(line.indexOf(' ') + 1, line.indexOf('(')));
        }
        for (Method method : CommaStream.class.getDeclaredMethods()) {
            if (method.isSynthetic()) {
                continue;
            }
            if (Modifier.isPublic(method.getModifiers())) {
                check.same("the face has " + told(method), due.remove(told(method)), true);
            } else {
                check.same(method + " is private", Modifier.isPrivate(method.getModifiers()), true);
                check.same(method + " has a name of the face", names.contains(method.getName()), false);
            }
        }
        check.same("what the face lacks, " + due, due.size(), 0);
        checkTheRest(check);
        check.end();
    }

    private static void checkTheRest(Check check) {
        int modifiers = CommaStream.class.getModifiers();
        check.same("the class is public and final",
            Modifier.isPublic(modifiers) && Modifier.isFinal(modifiers), true);
        Constructor<?>[] constructors = CommaStream.class.getDeclaredConstructors();
        check.same("constructors", constructors.length, 1);
        check.same("the constructor is public", Modifier.isPublic(constructors[0].getModifiers()), true);
        check.same("what the constructor takes", constructors[0].getParameterCount(), 0);
        for (Field field : CommaStream.class.getDeclaredFields()) {
            check.same(field + " is private", Modifier.isPrivate(field.getModifiers()), true);
        }
    }

    private static String told(Method method) {
        StringBuilder text = new StringBuilder();
        text.append(method.getReturnType().getName()).append(' ').append(method.getName()).append('(');
        for (int i = 0; i < method.getParameterCount(); i++) {
            text.append(i == 0 ? "" : ", ").append(method.getParameterTypes()[i].getName());
        }
        text.append(')');
        for (Class<?> thrown : method.getExceptionTypes()) {
            text.append(' ').append(thrown.getSimpleName());
        }
        return text.toString();
    }
}
