import java.lang.reflect.Field;
import java.lang.reflect.Method;
import java.lang.reflect.Modifier;
import java.util.Arrays;
import java.util.Set;
import java.util.TreeSet;

/** The public face is the document's, and nothing else can be seen or kept outside an object. */
public final class FaceTest {
    private static final Set<String> METHODS = new TreeSet<>(Set.of(
            "public int draw(int) throws IllegalArgumentException",
            "public int part(int,int) throws IndexOutOfBoundsException",
            "public boolean fits(int) throws IllegalArgumentException",
            "public boolean verdict(int,boolean)",
            "public int now()",
            "public int shorter()",
            "public int left(int)",
            "public boolean minimal()",
            "public int without(int) throws IllegalArgumentException",
            "public boolean same(long,int) throws IllegalArgumentException",
            "public int count(int)"));

    public static void main(String[] args) {
        Class<?> face = PortDrawer.class;
        Check.due("modifiers", "public final", () -> Modifier.toString(face.getModifiers()));
        Check.due("stands for itself: above it", Object.class, face::getSuperclass);
        Check.due("stands for itself: interfaces", 0, () -> face.getInterfaces().length);
        Check.due("NONE", -1, () -> PortDrawer.NONE);
        Check.due("constructors", "[public PortDrawer(long)]",
                () -> Arrays.toString(face.getDeclaredConstructors()));
        Check.due("visible methods", METHODS, () -> visibleMethods(face));
        Check.due("visible fields", Set.of("public static final int NONE"), () -> visibleFields(face));
        Check.due("static fields that are not final", Set.of(), () -> changingStatics(face));
        Check.due("classes inside that are seen outside or not static", Set.of(), () -> openInside(face));
        Check.due("private methods with a public name", Set.of(), () -> hiddenNamesakes(face));
        Check.end();
    }

    private static String told(Method m) {
        String text = Modifier.toString(m.getModifiers()) + " " + m.getReturnType().getName() + " "
                + m.getName() + "(" + namesOf(m.getParameterTypes()) + ")";
        String thrown = namesOf(m.getExceptionTypes());
        return thrown.isEmpty() ? text : text + " throws " + thrown;
    }

    private static String namesOf(Class<?>[] types) {
        StringBuilder text = new StringBuilder();
        for (Class<?> type : types) {
            text.append(text.length() == 0 ? "" : ",").append(type.getSimpleName());
        }
        return text.toString();
    }

    private static Set<String> visibleMethods(Class<?> face) {
        Set<String> found = new TreeSet<>();
        for (Method m : face.getDeclaredMethods()) {
            if (!Modifier.isPrivate(m.getModifiers())) {
                found.add(told(m));
            }
        }
        return found;
    }

    private static Set<String> visibleFields(Class<?> face) {
        Set<String> found = new TreeSet<>();
        for (Field f : face.getDeclaredFields()) {
            if (!Modifier.isPrivate(f.getModifiers())) {
                found.add(Modifier.toString(f.getModifiers()) + " " + f.getType() + " " + f.getName());
            }
        }
        return found;
    }

    private static Set<String> changingStatics(Class<?> face) {
        Set<String> found = new TreeSet<>();
        for (Field f : face.getDeclaredFields()) {
            if (Modifier.isStatic(f.getModifiers()) && !Modifier.isFinal(f.getModifiers())) {
                found.add(f.getName());
            }
        }
        for (Class<?> inside : face.getDeclaredClasses()) {
            found.addAll(changingStatics(inside));
        }
        return found;
    }

    private static Set<String> openInside(Class<?> face) {
        Set<String> found = new TreeSet<>();
        for (Class<?> inside : face.getDeclaredClasses()) {
            int m = inside.getModifiers();
            if (Modifier.isPublic(m) || Modifier.isProtected(m) || !Modifier.isStatic(m)) {
                found.add(inside.getSimpleName());
            }
        }
        return found;
    }

    private static Set<String> hiddenNamesakes(Class<?> face) {
        Set<String> names = new TreeSet<>();
        for (Method m : face.getDeclaredMethods()) {
            if (!Modifier.isPrivate(m.getModifiers())) {
                names.add(m.getName());
            }
        }
        Set<String> found = new TreeSet<>();
        for (Method m : face.getDeclaredMethods()) {
            if (Modifier.isPrivate(m.getModifiers()) && names.contains(m.getName())) {
                found.add(m.getName());
            }
        }
        return found;
    }
}
