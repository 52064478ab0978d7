import java.lang.reflect.Constructor;
import java.lang.reflect.Field;
import java.lang.reflect.Method;
import java.lang.reflect.Modifier;
import java.util.Set;
import java.util.TreeSet;

/** The face is that of the document, with nothing more; private methods bear no name of it. */
public final class FaceTest {
    private static final String[] FACE = {
        "int prime(int) IllegalArgumentException",
        "int rest(int)",
        "int reckon(int,int,int) IllegalArgumentException",
        "int reciprocal(int)",
        "int power(int,int)",
        "int sealOf(int)",
        "int weight(int,int,int) IndexOutOfBoundsException IllegalArgumentException",
        "int weights(int,int) IllegalArgumentException",
        "int hide(int,int,int,int,int,int) IndexOutOfBoundsException IllegalArgumentException",
        "int pour(int,int,int,int,int) IndexOutOfBoundsException",
        "int plus(int,int,int) IndexOutOfBoundsException",
        "int less(int,int,int) IndexOutOfBoundsException",
        "int times(int,int,int) IndexOutOfBoundsException",
        "int scale(int,int,int) IndexOutOfBoundsException",
        "int handOn(int,int,int,int,int,int) IndexOutOfBoundsException IllegalArgumentException",
        "int lose(int,int) IndexOutOfBoundsException",
        "int give(int,int,int) IndexOutOfBoundsException",
        "int regain(int,int,int) IndexOutOfBoundsException IllegalArgumentException",
        "int mend(int) IndexOutOfBoundsException",
        "int copy(int,int) IndexOutOfBoundsException",
        "int drop(int) IndexOutOfBoundsException",
        "int knock()",
        "int share(int,int) IndexOutOfBoundsException",
        "int ofDeal(int,int) IndexOutOfBoundsException IllegalArgumentException",
        "int told(int,int,int) IndexOutOfBoundsException IllegalArgumentException",
        "int open(int,int) IndexOutOfBoundsException IllegalArgumentException",
        "int coefficient(int,int,int) IndexOutOfBoundsException IllegalArgumentException",
        "int degreeBy(int,int) IndexOutOfBoundsException IllegalArgumentException",
        "int agrees(int,int) IndexOutOfBoundsException IllegalArgumentException",
        "int suspects(int) IndexOutOfBoundsException",
        "int wrong(int) IndexOutOfBoundsException",
        "int ways(int,int,int) IndexOutOfBoundsException IllegalArgumentException",
        "int total(int,int) IndexOutOfBoundsException IllegalArgumentException",
        "int seal(int,int) IndexOutOfBoundsException IllegalArgumentException",
        "int fits(int,int) IndexOutOfBoundsException",
        "int order(int,int,int) IndexOutOfBoundsException",
        "int most(int,boolean) IndexOutOfBoundsException",
        "java.lang.String text(int) IndexOutOfBoundsException",
        "java.lang.String seals(int) IndexOutOfBoundsException",
        "boolean isSame(int,int) IndexOutOfBoundsException",
        "int house(int) IllegalArgumentException",
        "boolean isSound()",
        "long digest()",
    };

    private FaceTest() {
    }

    public static void main(String[] args) {
        Class<?> face = Secretshares.class;
        Check.due("modifiers", face.getModifiers(), Modifier.PUBLIC | Modifier.FINAL);
        Constructor<?>[] made = face.getDeclaredConstructors();
        Check.due("constructors", made.length, 1);
        Check.due("constructor", made[0].getModifiers() == Modifier.PUBLIC && made[0].getParameterCount() == 0);
        Set<String> names = methodsOf(face);
        namesInside(face, names);
        for (Field field : face.getDeclaredFields()) {
            Check.due("private field " + field.getName(), Modifier.isPrivate(field.getModifiers()));
            boolean isKept = !Modifier.isStatic(field.getModifiers()) || Modifier.isFinal(field.getModifiers());
            Check.due("final, if static: " + field.getName(), isKept);
        }
        Check.end();
    }

    private static Set<String> methodsOf(Class<?> face) {
        Set<String> due = new TreeSet<>(Set.of(FACE));
        Set<String> got = new TreeSet<>();
        Set<String> names = new TreeSet<>();
        for (Method method : face.getDeclaredMethods()) {
            if (Modifier.isPrivate(method.getModifiers())) {
                continue;
            }
            names.add(method.getName());
            got.add(signOf(method));
            Check.due("modifiers of " + method.getName(), method.getModifiers(), Modifier.PUBLIC);
        }
        Check.due("methods", got, due);
        return names;
    }

    private static void namesInside(Class<?> face, Set<String> names) {
        for (Method method : face.getDeclaredMethods()) {
            boolean isFree = Modifier.isPublic(method.getModifiers()) || !names.contains(method.getName());
            Check.due("name of a public one: " + method.getName(), isFree);
        }
        for (Class<?> inside : face.getDeclaredClasses()) {
            Check.due("not public: " + inside.getName(), !Modifier.isPublic(inside.getModifiers()));
            Check.due("static: " + inside.getName(), Modifier.isStatic(inside.getModifiers()));
            for (Method method : inside.getDeclaredMethods()) {
                Check.due("name of a public one: " + method.getName(), !names.contains(method.getName()));
            }
        }
    }

    private static String signOf(Method method) {
        StringBuilder sign = new StringBuilder(method.getReturnType().getName());
        sign.append(' ').append(method.getName()).append('(');
        for (Class<?> type : method.getParameterTypes()) {
            sign.append(sign.charAt(sign.length() - 1) == '(' ? "" : ",").append(type.getName());
        }
        sign.append(')');
        for (Class<?> type : method.getExceptionTypes()) {
            sign.append(' ').append(type.getSimpleName());
        }
        return sign.toString();
    }
}
