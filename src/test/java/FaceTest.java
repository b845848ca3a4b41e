import java.lang.reflect.Constructor;
import java.lang.reflect.Field;
import java.lang.reflect.Method;
import java.lang.reflect.Modifier;
import java.util.TreeSet;

/** The face of the class is the document's, and nothing more can be reached from outside. */
final class FaceTest {
    private static final String[] FACE = {
        "public int append(int) throws IllegalArgumentException, IllegalStateException",
        "public int beam(int,int,int,int,int) throws IllegalArgumentException, IllegalStateException",
        "public int beamOf(int,int) throws IndexOutOfBoundsException, IllegalArgumentException",
        "public int beat(int,int) throws IllegalArgumentException",
        "public int bestSpeed(int,int) throws IllegalArgumentException",
        "public int clearBuffer()",
        "public int clearCue(int) throws IndexOutOfBoundsException",
        "public int count(int) throws IllegalArgumentException",
        "public int cue(int,int) throws IndexOutOfBoundsException, IllegalArgumentException",
        "public long digest()",
        "public int firstError()",
        "public int ifBeam(int,int,int,int,int) throws IllegalArgumentException",
        "public int litAt(int,int) throws IndexOutOfBoundsException",
        "public double litShare()",
        "public int read() throws IllegalArgumentException",
        "public int removeBeam(int) throws IndexOutOfBoundsException",
        "public int removeWord(int) throws IndexOutOfBoundsException",
        "public int rule(int,int,int) throws IndexOutOfBoundsException, IllegalArgumentException",
        "public int seen(int,int,int) throws IllegalArgumentException",
        "public int set(int,int) throws IndexOutOfBoundsException, IllegalArgumentException",
        "public int turn(int) throws IndexOutOfBoundsException",
        "public int undo() throws IllegalStateException",
        "public int word(int,int,int,int) throws IllegalArgumentException, IllegalStateException",
        "public int wordOf(int,int) throws IndexOutOfBoundsException, IllegalArgumentException",
    };

    private FaceTest() {
    }

    static void run(Checks check) {
        check.topic("face");
        check.isTrue("public final", CreditBeams.class.getModifiers() == (Modifier.PUBLIC | Modifier.FINAL));
        TreeSet<String> due = new TreeSet<>();
        for (String line : FACE) {
            due.add(line);
        }
        TreeSet<String> got = new TreeSet<>();
        TreeSet<String> names = new TreeSet<>();
        for (Method method : CreditBeams.class.getDeclaredMethods()) {
            if (isOpen(method.getModifiers(), method.isSynthetic())) {
                got.add(line(method));
                names.add(method.getName());
            }
        }
        check.isTrue("the methods " + got, due.equals(got));
        for (Method method : CreditBeams.class.getDeclaredMethods()) {
            boolean hidden = Modifier.isPrivate(method.getModifiers());
            check.isTrue(method + " not bearing a public name",
                    !hidden || !names.contains(method.getName()));
        }
        for (Field field : CreditBeams.class.getDeclaredFields()) {
            check.isTrue(field + " being hidden", field.getName().equals("NONE")
                    || !isOpen(field.getModifiers(), field.isSynthetic()));
        }
        Constructor<?>[] makers = CreditBeams.class.getDeclaredConstructors();
        check.isTrue("one public constructor without arguments", makers.length == 1
                && makers[0].getParameterCount() == 0 && Modifier.isPublic(makers[0].getModifiers()));
        check.same("NONE", -1, CreditBeams.NONE);
    }

    private static boolean isOpen(int modifiers, boolean synthetic) {
        return !Modifier.isPrivate(modifiers) && !synthetic;
    }

    private static String line(Method method) {
        return method.toGenericString().replace("CreditBeams.", "").replace("java.lang.", "")
                .replace("Exception,", "Exception, ");
    }
}
