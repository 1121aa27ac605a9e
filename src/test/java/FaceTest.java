import java.lang.reflect.Constructor;
import java.lang.reflect.Field;
import java.lang.reflect.Member;
import java.lang.reflect.Method;
import java.lang.reflect.Modifier;
import java.util.Set;
import java.util.TreeSet;

/** The public face is the document's and no more, and there is no static state. */
public final class FaceTest {
    private static final String REFUSES = " throws java.lang.IllegalArgumentException";
    private static final String[] FACE = {
        "void PointBench.set(int,int,long)",
        "long PointBench.get(int,int)",
        "int PointBench.compare(int,int)",
        "boolean PointBench.work(int,int,int,int)",
        "void PointBench.base(int)",
        "void PointBench.none(int)",
        "boolean PointBench.lay(int,int,int)",
        "boolean PointBench.lift(int,int,boolean)",
        "boolean PointBench.show(int,int,int)",
        "void PointBench.add(int,int,int)",
        "void PointBench.times(int,int,int)",
        "boolean PointBench.same(int,int)",
        "boolean PointBench.sign(int,int,int,int,int)",
        "boolean PointBench.verify(int,int,int,int)",
    };

    public static void main(String[] args) {
        Class<?> face = PointBench.class;
        Checks.due("the class's modifiers", face.getModifiers(), Modifier.PUBLIC | Modifier.FINAL);
        Checks.due("what the class extends", face.getSuperclass(), Object.class);
        Checks.due("how much the class implements", face.getInterfaces().length, 0);
        Checks.due("the class's package", face.getPackageName(), "");
        Constructor<?>[] constructors = face.getDeclaredConstructors();
        Checks.due("constructors", constructors.length, 1);
        Checks.due("the constructor", constructors[0].toGenericString(), "public PointBench()");
        methods(face);
        for (Field field : face.getDeclaredFields()) {
            Checks.due("that " + field + " is private", isPrivate(field), true);
        }
        noStaticState(face);
        for (Class<?> inside : face.getDeclaredClasses()) {
            Checks.due("that " + inside + " is static and not public",
                    inside.getModifiers() & (Modifier.STATIC | Modifier.PUBLIC), Modifier.STATIC);
            noStaticState(inside);
        }
        Checks.end();
    }

    private static void methods(Class<?> face) {
        Set<String> due = new TreeSet<>();
        for (String method : FACE) {
            due.add("public " + method + REFUSES);
        }
        Set<String> seen = new TreeSet<>();
        Set<String> publicNames = new TreeSet<>();
        for (Method method : face.getDeclaredMethods()) {
            if (!isPrivate(method)) {
                seen.add(method.toGenericString());
                publicNames.add(method.getName());
            }
        }
        Checks.due("the methods", seen, due);
        for (Method method : face.getDeclaredMethods()) {
            if (isPrivate(method)) {
                Checks.due("that a public method is called " + method.getName(),
                        publicNames.contains(method.getName()), false);
            }
        }
    }

    private static void noStaticState(Class<?> type) {
        for (Field field : type.getDeclaredFields()) {
            boolean changes = Modifier.isStatic(field.getModifiers())
                    && !Modifier.isFinal(field.getModifiers());
            Checks.due("that " + field + " is static and not final", changes, false);
        }
    }

    private static boolean isPrivate(Member member) {
        return Modifier.isPrivate(member.getModifiers());
    }
}
