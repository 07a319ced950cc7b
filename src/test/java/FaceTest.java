import java.lang.reflect.Constructor;
import java.lang.reflect.Field;
import java.lang.reflect.Method;
import java.lang.reflect.Modifier;
import java.util.Arrays;
import java.util.TreeSet;

/** The document's face is there, whole, and nothing else can be seen from outside. */
final class FaceTest {
    private static final String[] FACE = {
        "int body()",
        "boolean box(int,long,long,long,long,long,long)IndexOutOfBoundsException,IllegalArgumentException",
        "boolean cylinder(int,long,long,long,long,long)IndexOutOfBoundsException,IllegalArgumentException",
        "boolean corner(long,long)IllegalArgumentException",
        "boolean prism(int,long,long)IndexOutOfBoundsException,IllegalArgumentException",
        "boolean tube(int,long,long,long,long,int,long)IndexOutOfBoundsException,IllegalArgumentException",
        "int join(int,int)IndexOutOfBoundsException",
        "int place(int,long,long,int,int)IndexOutOfBoundsException,IllegalArgumentException",
        "boolean move(int,long,long,int,int)IndexOutOfBoundsException,IllegalArgumentException",
        "int clash(int,int)IndexOutOfBoundsException",
        "int clashes()",
        "int pair(int,int)IndexOutOfBoundsException",
        "boolean keepOut(long,long,long,long,int,long)IllegalArgumentException",
        "int breaks(int)",
        "long bound(int,int)IndexOutOfBoundsException,IllegalStateException",
        "long section(long,int,int)IndexOutOfBoundsException",
        "long mass(int)IndexOutOfBoundsException",
    };

    public static void main(String[] args) {
        Class<?> face = BodySolids.class;
        Due.yes("the class is public and final", face.getModifiers() == (Modifier.PUBLIC | Modifier.FINAL));
        TreeSet<String> names = new TreeSet<>();
        TreeSet<String> seen = new TreeSet<>();
        for (Method method : face.getDeclaredMethods()) {
            if (!Modifier.isPrivate(method.getModifiers())) {
                seen.add(written(method));
                names.add(method.getName());
            }
        }
        Due.yes("the methods are the document's: " + seen, seen.equals(new TreeSet<>(Arrays.asList(FACE))));
        for (Method method : face.getDeclaredMethods()) {
            if (Modifier.isPrivate(method.getModifiers())) {
                Due.no("private method " + method.getName() + " has a public one's name", names.contains(method.getName()));
            }
        }
        constructors(face);
        fields(face);
        for (Class<?> inside : face.getDeclaredClasses()) {
            Due.yes(inside.getName() + " is static and private", Modifier.isStatic(inside.getModifiers())
                    && Modifier.isPrivate(inside.getModifiers()));
        }
        Due.end();
    }

    private static String written(Method method) {
        return method.getReturnType().getName() + " " + method.getName() + "(" + listed(method.getParameterTypes()) + ")"
                + listed(method.getExceptionTypes());
    }

    private static String listed(Class<?>[] types) {
        StringBuilder text = new StringBuilder();
        for (Class<?> type : types) {
            text.append(text.length() == 0 ? "" : ",").append(type.getSimpleName());
        }
        return text.toString();
    }

    private static void constructors(Class<?> face) {
        Constructor<?>[] all = face.getDeclaredConstructors();
        Due.is("constructors", all.length, 1);
        Due.yes("the constructor takes a long", listed(all[0].getParameterTypes()).equals("long"));
        Due.yes("the constructor is public", Modifier.isPublic(all[0].getModifiers()));
    }

    private static void fields(Class<?> face) {
        Due.is("NONE", BodySolids.NONE, -1);
        for (Field field : face.getDeclaredFields()) {
            boolean none = field.getName().equals("NONE");
            Due.yes("field " + field.getName(), Modifier.isPrivate(field.getModifiers()) != none);
            Due.yes("static field is final: " + field.getName(),
                    !Modifier.isStatic(field.getModifiers()) || Modifier.isFinal(field.getModifiers()));
        }
    }
}
