import java.lang.reflect.Constructor;
import java.lang.reflect.Field;
import java.lang.reflect.Method;
import java.lang.reflect.Modifier;
import java.util.HashSet;
import java.util.List;
import java.util.Set;
import java.util.TreeSet;

/** "The public face", and LANGUAGE.md's rules 1 and 5: the document's members, and no others to be seen. */
public final class FaceTest {
    private static final String SENDER = " throws IndexOutOfBoundsException,IllegalStateException";
    private static final List<String> FACE = List.of(
        "public boolean AreaRouters.place(int,int,int)",
        "public boolean AreaRouters.attach(int,int,int,int)",
        "public int AreaRouters.hello(int,int,int)" + SENDER,
        "public int AreaRouters.spread(int,int,int,int)" + SENDER + ",IllegalArgumentException",
        "public int AreaRouters.summary(int,int,int,int)" + SENDER + ",IllegalArgumentException",
        "public int AreaRouters.request(int,int,int,int)" + SENDER + ",IllegalArgumentException",
        "public int AreaRouters.describe(int) throws IndexOutOfBoundsException",
        "public void AreaRouters.tick()",
        "public boolean AreaRouters.neighbour(int,int,int,int)",
        "public int AreaRouters.speaker(int,int,int)",
        "public int AreaRouters.description(int,int,int,int)",
        "public int AreaRouters.marks(int,int,int)",
        "public int AreaRouters.route(int,int)",
        "public int AreaRouters.trace(int,int)");

    private FaceTest() {
    }

    public static void main(String[] args) {
        Class<?> type = AreaRouters.class;
        Check.yes("the class is public and final",
            Modifier.isPublic(type.getModifiers()) && Modifier.isFinal(type.getModifiers()));
        Check.yes("it has no class above it", type.getSuperclass() == Object.class && type.getInterfaces().length == 0);
        constructors(type);
        methods(type);
        fields(type);
        classesInside(type);
        Check.finish();
    }

    private static void constructors(Class<?> type) {
        Constructor<?>[] all = type.getDeclaredConstructors();
        Check.same("how many constructors", all.length, 1);
        Check.yes("it is AreaRouters()", all[0].toString().equals("public AreaRouters()"));
    }

    private static void methods(Class<?> type) {
        Set<String> seen = new TreeSet<>();
        Set<String> names = new HashSet<>();
        for (Method method : type.getDeclaredMethods()) {
            if (!Modifier.isPrivate(method.getModifiers())) {
                seen.add(method.toString().replace("java.lang.", ""));
                names.add(method.getName());
            }
        }
        Check.yes("the face is the document's:\n" + seen, seen.equals(new TreeSet<>(FACE)));
        for (Method method : type.getDeclaredMethods()) {
            if (Modifier.isPrivate(method.getModifiers())) {
                Check.no("a private method is named like a public one: " + method, names.contains(method.getName()));
            }
        }
    }

    private static void fields(Class<?> type) {
        for (Field field : type.getDeclaredFields()) {
            int kind = field.getModifiers();
            Check.yes("private: " + field, Modifier.isPrivate(kind));
            Check.yes("no static state: " + field, !Modifier.isStatic(kind) || Modifier.isFinal(kind));
        }
    }

    private static void classesInside(Class<?> type) {
        for (Class<?> inside : type.getDeclaredClasses()) {
            int kind = inside.getModifiers();
            Check.yes("static: " + inside, Modifier.isStatic(kind));
            Check.no("seen from outside: " + inside, Modifier.isPublic(kind) || Modifier.isProtected(kind));
            for (Field field : inside.getDeclaredFields()) {
                int fieldKind = field.getModifiers();
                Check.yes("no static state: " + field, !Modifier.isStatic(fieldKind) || Modifier.isFinal(fieldKind));
            }
        }
    }
}
