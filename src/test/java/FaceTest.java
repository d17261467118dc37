import java.lang.reflect.Constructor;
import java.lang.reflect.Field;
import java.lang.reflect.Method;
import java.lang.reflect.Modifier;
import java.util.Set;
import java.util.TreeSet;

/** The public face is the document's, with no member beside it that another class could see. */
public final class FaceTest {
    private static final Set<String> FACE = Set.of(
            "public HashedNames()",
            "public void HashedNames.say(int,int,int,int,int)",
            "public int HashedNames.add(int,int,int)"
                    + " throws java.lang.IllegalArgumentException,java.lang.IllegalStateException",
            "public int HashedNames.find(int,int) throws java.lang.IllegalArgumentException",
            "public int HashedNames.remove(int,int)"
                    + " throws java.lang.IllegalArgumentException,java.lang.IllegalStateException",
            "public int HashedNames.change(int,int,int)"
                    + " throws java.lang.IllegalArgumentException,java.lang.IllegalStateException",
            "public int HashedNames.size(int) throws java.lang.IllegalArgumentException",
            "public int HashedNames.nth(int,int) throws java.lang.IllegalArgumentException",
            "public int HashedNames.byteAt(int) throws java.lang.IllegalArgumentException");

    public static void main(String[] args) {
        Check.test("the face", FaceTest::theFace);
        Check.test("the class stands alone", FaceTest::standsAlone);
        Check.test("no private method has a public one's name", FaceTest::noNameTwice);
        Check.end();
    }

    private static void theFace() {
        Set<String> seen = new TreeSet<>();
        for (Constructor<?> c : HashedNames.class.getDeclaredConstructors()) {
            note(seen, c.getModifiers(), c.toString());
        }
        for (Method m : HashedNames.class.getDeclaredMethods()) {
            note(seen, m.getModifiers(), m.toString());
        }
        for (Field f : HashedNames.class.getDeclaredFields()) {
            note(seen, f.getModifiers(), f.toString());
        }
        for (String member : FACE) {
            Check.due("is there: " + member, seen.contains(member) ? 1 : 0, 1);
        }
        for (String member : seen) {
            Check.due("is the document's: " + member, FACE.contains(member) ? 1 : 0, 1);
        }
        int modifiers = HashedNames.class.getModifiers();
        Check.due("public and final", modifiers & (Modifier.PUBLIC | Modifier.FINAL),
                Modifier.PUBLIC | Modifier.FINAL);
    }

    private static void standsAlone() {
        Check.due("length of the package's name", HashedNames.class.getPackageName().length(), 0);
        Check.due("extends nothing", HashedNames.class.getSuperclass() == Object.class ? 1 : 0, 1);
        Check.due("interfaces", HashedNames.class.getInterfaces().length, 0);
    }

    private static void noNameTwice() {
        Set<String> names = new TreeSet<>();
        for (Method m : HashedNames.class.getMethods()) {
            names.add(m.getName());
        }
        for (Method m : HashedNames.class.getDeclaredMethods()) {
            boolean hidden = Modifier.isPrivate(m.getModifiers());
            Check.due("is public and private: " + m, hidden && names.contains(m.getName()) ? 1 : 0, 0);
        }
    }

    private static void note(Set<String> seen, int modifiers, String member) {
        if (!Modifier.isPrivate(modifiers)) {
            seen.add(member);
        }
    }
}
