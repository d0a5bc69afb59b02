import java.lang.reflect.Constructor;
import java.lang.reflect.Field;
import java.lang.reflect.Method;
import java.lang.reflect.Modifier;
import java.util.Set;
import java.util.TreeSet;

/** "The public face": the lines of the document, and no other member that can be seen from outside. */
public final class FaceTest {
    private static final Due due = new Due();

    public static void main(String[] args) {
        due.sentence("The public face", "public final class GlobDesk");
        due.same("the class", Modifier.toString(GlobDesk.class.getModifiers()), "public final");
        due.same("its superclass", GlobDesk.class.getSuperclass().getName(), "java.lang.Object");
        due.same("its interfaces", GlobDesk.class.getInterfaces().length, 0);
        constructors();
        methods();
        nothingElse();
        due.end();
    }

    private static void constructors() {
        due.sentence("The public face", "public GlobDesk();");
        Constructor<?>[] all = GlobDesk.class.getDeclaredConstructors();
        due.same("how many constructors", all.length, 1);
        due.same("the constructor", all[0].toGenericString(), "public GlobDesk()");
    }

    private static void methods() {
        due.sentence("The public face", "public boolean put(int which, long v, int n); ..");
        Set<String> want = new TreeSet<>(Set.of(
            "public boolean GlobDesk.put(int,long,int)",
            "public int GlobDesk.clear(int)",
            "public int GlobDesk.match(int,int)",
            "public int GlobDesk.spans()",
            "public int GlobDesk.span(int,int)",
            "public int GlobDesk.order(int)",
            "public boolean GlobDesk.counts(int,int)",
            "public int GlobDesk.byteAt(int,int)",
            "public int GlobDesk.size(int)"));
        Set<String> got = new TreeSet<>();
        for (Method method : GlobDesk.class.getDeclaredMethods()) {
            if (!Modifier.isPrivate(method.getModifiers()) && !method.isSynthetic()) {
                got.add(method.toGenericString());
            }
        }
        due.same("the methods", got.toString(), want.toString());
    }

    private static void nothingElse() {
        due.sentence("The public face", "}", "no constants, and no field that can be seen");
        int seen = 0;
        for (Field field : GlobDesk.class.getDeclaredFields()) {
            seen += Modifier.isPrivate(field.getModifiers()) || field.isSynthetic() ? 0 : 1;
        }
        due.same("fields that are not private", seen, 0);
        due.same("public classes inside", GlobDesk.class.getClasses().length, 0);
    }
}
