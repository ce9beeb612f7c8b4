import java.lang.reflect.Constructor;
import java.lang.reflect.Field;
import java.lang.reflect.Method;
import java.lang.reflect.Modifier;
import java.util.Arrays;
import java.util.TreeSet;

/** The public face is the document's, and nothing else of the class can be seen from outside. */
public final class FaceTest {
    private static final String IAE = " throws java.lang.IllegalArgumentException";
    private static final String[] FACE = {
        "public int EdgeFinder.add(int,int,boolean)" + IAE + ",java.lang.IndexOutOfBoundsException",
        "public void EdgeFinder.set(int,int,int,boolean)" + IAE,
        "public int EdgeFinder.cut(int)" + IAE,
        "public boolean EdgeFinder.edge(int,int)" + IAE,
        "public int EdgeFinder.next(int,int,boolean)" + IAE,
        "public int EdgeFinder.rank(int,int)" + IAE,
        "public int EdgeFinder.hash(int)" + IAE};

    public static void main(String[] args) {
        Checks.due("class", Modifier.toString(EdgeFinder.class.getModifiers()), "public final");
        TreeSet<String> seen = new TreeSet<>();
        for (Method method : EdgeFinder.class.getDeclaredMethods()) {
            if (!method.isSynthetic() && !Modifier.isPrivate(method.getModifiers())) {
                seen.add(method.toString());
            }
        }
        Checks.due("methods", seen, new TreeSet<>(Arrays.asList(FACE)));
        Constructor<?>[] constructors = EdgeFinder.class.getDeclaredConstructors();
        Checks.due("constructors", Arrays.toString(constructors), "[public EdgeFinder()]");
        for (Field field : EdgeFinder.class.getDeclaredFields()) {
            Checks.due("private " + field, Modifier.isPrivate(field.getModifiers()), true);
        }
        Checks.end();
    }
}
