import java.lang.reflect.Constructor;
import java.lang.reflect.Field;
import java.lang.reflect.Method;
import java.lang.reflect.Modifier;
import java.util.Set;
import java.util.TreeSet;

/** The public face is the document's, with the exceptions that it names, and nothing more. */
final class FaceTest {
    private static final String INDEX = "java.lang.IndexOutOfBoundsException";
    private static final String NUMBER = "java.lang.IllegalArgumentException";
    private static final String ROOM = "java.lang.UnsupportedOperationException";
    private static final String ALL_THREE = " throws " + INDEX + "," + NUMBER + "," + ROOM;
    private static final String NO_ROOM = " throws " + INDEX + "," + NUMBER;

    /** Each member, behind the promise that tells of it. */
    private static final String[][] FACE = {
        {"Promise 8 (and 9, 11): the face of NONE", "public static final int LineTimes.NONE"},
        {"Promise 1: the face of a new object", "public LineTimes()"},
        {"Promise 2: the face of line", "public int LineTimes.line(int) throws " + NUMBER + "," + ROOM},
        {"Promise 3: the face of stop", "public int LineTimes.stop(int,int,long,long)" + ALL_THREE},
        {"Promise 4: the face of exception", "public int LineTimes.exception(int,long,boolean)" + ALL_THREE},
        {"Promise 5: the face of zone", "public int LineTimes.zone(int,long,int)" + ALL_THREE},
        {"Promise 6: the face of least", "public int LineTimes.least(int,long)" + NO_ROOM},
        {"Promise 7: the face of change", "public int LineTimes.change(int,int,long,long)" + ALL_THREE},
        {"Promise 8: the face of earliest", "public long LineTimes.earliest(int,int,long)" + NO_ROOM},
        {"Promise 9: the face of step", "public int LineTimes.step(int,int) throws " + NUMBER},
        {"Promise 10: the face of days",
            "public int LineTimes.days(int,int) throws java.lang.ArrayIndexOutOfBoundsException"},
        {"Promise 11: the face of next", "public int LineTimes.next(int,int,long,int)" + NO_ROOM},
        {"Promise 12: the face of sign", "public void LineTimes.sign(int) throws " + NUMBER + "," + ROOM},
        {"Promise 13: the face of read", "public int LineTimes.read()"},
    };

    private static Set<String> face() {
        Set<String> face = new TreeSet<>();
        for (Field f : LineTimes.class.getDeclaredFields()) {
            if (!Modifier.isPrivate(f.getModifiers())) {
                face.add(f.toString());
            }
        }
        for (Constructor<?> c : LineTimes.class.getDeclaredConstructors()) {
            face.add(c.toString());
        }
        for (Method m : LineTimes.class.getDeclaredMethods()) {
            if (!Modifier.isPrivate(m.getModifiers())) {
                face.add(m.toString());
            }
        }
        return face;
    }

    private static Set<String> namesTwice() {
        Set<String> open = new TreeSet<>();
        Set<String> twice = new TreeSet<>();
        for (Method m : LineTimes.class.getDeclaredMethods()) {
            if (Modifier.isPublic(m.getModifiers())) {
                open.add(m.getName());
            }
        }
        for (Class<?> c : LineTimes.class.getDeclaredClasses()) {
            for (Method m : c.getDeclaredMethods()) {
                if (open.contains(m.getName())) {
                    twice.add(c.getSimpleName() + "." + m.getName());
                }
            }
        }
        return twice;
    }

    public static void main(String[] args) {
        Check check = new Check();
        Set<String> face = face();
        for (String[] member : FACE) {
            check.about(member[0]);
            check.equal(member[1], face.remove(member[1]) ? "there" : "not there", "there");
        }
        check.about("The public face (promises 1 to 13): there is nothing else in it");
        check.equal("the rest of the face", face.toString(), "[]");
        check.equal("the class", Modifier.toString(LineTimes.class.getModifiers()), "public final");
        check.same("NONE", LineTimes.NONE, -1);
        check.equal("public names borne inside", namesTwice().toString(), "[]");
        for (Class<?> c : LineTimes.class.getDeclaredClasses()) {
            int bits = c.getModifiers();
            boolean fine = Modifier.isStatic(bits) && !Modifier.isPublic(bits) && !Modifier.isProtected(bits);
            check.same(c.getSimpleName() + " is static and not open", fine ? 1 : 0, 1);
        }
        check.end();
    }
}
