import java.lang.reflect.Constructor;
import java.lang.reflect.Field;
import java.lang.reflect.Method;
import java.lang.reflect.Modifier;
import java.util.Arrays;
import java.util.HashSet;
import java.util.Set;
import java.util.TreeSet;

/** The class shows the face of the document and nothing else. */
public final class FaceTest {
    private static final String[] FACE = {
        "public int HutRings.come() throws java.lang.IllegalStateException",
        "public int HutRings.wish(int,int,int)"
            + " throws java.lang.IndexOutOfBoundsException,java.lang.IllegalStateException",
        "public int HutRings.drop(int,int) throws java.lang.IndexOutOfBoundsException",
        "public int HutRings.list(int,int) throws java.lang.IndexOutOfBoundsException",
        "public int HutRings.told(int,int) throws java.lang.IndexOutOfBoundsException",
        "public int HutRings.points(int,int)"
            + " throws java.lang.IndexOutOfBoundsException,java.lang.IllegalArgumentException",
        "public int HutRings.rank(int,int) throws java.lang.IndexOutOfBoundsException",
        "public int HutRings.count(int) throws java.lang.IndexOutOfBoundsException",
        "public boolean HutRings.swaps(int,int) throws java.lang.IndexOutOfBoundsException",
        "public int HutRings.without(int,int)"
            + " throws java.lang.IndexOutOfBoundsException,java.lang.IllegalArgumentException",
        "public int HutRings.feign(int,int) throws java.lang.IndexOutOfBoundsException",
        "public int HutRings.move()",
        "public double HutRings.mean()",
        "public long HutRings.digest()",
    };

    private FaceTest() {
    }

    public static void main(String[] args) {
        Check.same("the class", "public final", Modifier.toString(HutRings.class.getModifiers()));
        Set<String> open = new TreeSet<>();
        Set<String> openNames = new HashSet<>();
        Set<String> hiddenNames = new HashSet<>();
        for (Method method : HutRings.class.getDeclaredMethods()) {
            if (Modifier.isPrivate(method.getModifiers())) {
                hiddenNames.add(method.getName());
            } else {
                open.add(method.toGenericString());
                openNames.add(method.getName());
            }
        }
        Check.same("the methods", new TreeSet<>(Arrays.asList(FACE)).toString(), open.toString());
        hiddenNames.retainAll(openNames);
        Check.same("private methods with public names", "[]", hiddenNames.toString());
        for (Constructor<?> constructor : HutRings.class.getDeclaredConstructors()) {
            Check.same("the constructor", "public HutRings()", constructor.toGenericString());
        }
        for (Field field : HutRings.class.getDeclaredFields()) {
            Check.same("private: " + field.getName(), "true", "" + Modifier.isPrivate(field.getModifiers()));
        }
        Check.end("FaceTest");
    }
}
