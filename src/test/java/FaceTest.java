import java.lang.reflect.Constructor;
import java.lang.reflect.Field;
import java.lang.reflect.Method;
import java.lang.reflect.Modifier;
import java.util.Arrays;
import java.util.Set;
import java.util.TreeSet;

/** The public face is the document's, with nothing more on it. */
public final class FaceTest {
    private static final String[] FACE = {
        "int road(int,int,int,int,int,int,boolean) IndexOutOfBoundsException IllegalArgumentException"
            + " IllegalStateException",
        "int air(int,boolean) IllegalArgumentException",
        "int fall(int,int,int) IllegalArgumentException",
        "int forecast(int,int,int,int,boolean) IllegalArgumentException IllegalStateException",
        "int pass(int) IllegalArgumentException IllegalStateException",
        "int lorry(boolean) IllegalStateException",
        "int rate(int,int) IndexOutOfBoundsException IllegalArgumentException",
        "int order(int,int) IndexOutOfBoundsException IllegalStateException",
        "int load(int) IndexOutOfBoundsException IllegalStateException",
        "int rest(int) IndexOutOfBoundsException IllegalStateException",
        "int deliver(int,int) IllegalArgumentException IllegalStateException",
        "int claim(int,int) IndexOutOfBoundsException IllegalArgumentException",
        "int ofRoad(int,int) IndexOutOfBoundsException IllegalArgumentException",
        "int ofLorry(int,int) IndexOutOfBoundsException IllegalArgumentException",
        "int many(int) IllegalArgumentException",
        "int way(int,int) IndexOutOfBoundsException",
        "double meanWarmth()",
        "int slipperyIn(int,int) IndexOutOfBoundsException IllegalArgumentException",
        "int saltFor(int,int) IndexOutOfBoundsException IllegalArgumentException",
        "int bestOrders(int,int) IndexOutOfBoundsException",
        "long digest()",
    };

    public static void main(String[] args) {
        methodsAreTheDocuments();
        constructorIsPublicAndEmpty();
        nothingElseIsSeen();
        Check.finish();
    }

    private static void methodsAreTheDocuments() {
        Set<String> due = new TreeSet<>(Arrays.asList(FACE));
        Set<String> got = new TreeSet<>();
        for (Method method : GritWatch.class.getDeclaredMethods()) {
            if (Modifier.isPublic(method.getModifiers())) {
                got.add(written(method));
            }
        }
        Check.isTrue("public methods are " + got + ", due are " + due, got.equals(due));
    }

    private static String written(Method method) {
        StringBuilder text = new StringBuilder();
        text.append(method.getReturnType().getSimpleName()).append(' ').append(method.getName()).append('(');
        for (int i = 0; i < method.getParameterTypes().length; i++) {
            text.append(i == 0 ? "" : ",").append(method.getParameterTypes()[i].getSimpleName());
        }
        text.append(')');
        for (Class<?> thrown : method.getExceptionTypes()) {
            text.append(' ').append(thrown.getSimpleName());
        }
        return text.toString();
    }

    private static void constructorIsPublicAndEmpty() {
        Constructor<?>[] made = GritWatch.class.getDeclaredConstructors();
        Check.same("constructors", made.length, 1);
        Check.same("its parameters", made[0].getParameterCount(), 0);
        Check.isTrue("the constructor is not public", Modifier.isPublic(made[0].getModifiers()));
        int ofClass = GritWatch.class.getModifiers();
        Check.isTrue("the class is not public and final", Modifier.isPublic(ofClass) && Modifier.isFinal(ofClass));
    }

    private static void nothingElseIsSeen() {
        Set<String> face = new TreeSet<>();
        for (Method method : GritWatch.class.getDeclaredMethods()) {
            if (Modifier.isPublic(method.getModifiers())) {
                face.add(method.getName());
            }
        }
        for (Method method : GritWatch.class.getDeclaredMethods()) {
            boolean isPublic = Modifier.isPublic(method.getModifiers());
            Check.isTrue(method + " is seen", isPublic || Modifier.isPrivate(method.getModifiers()));
            Check.isTrue(method + " bears a public name", isPublic || !face.contains(method.getName()));
        }
        for (Field field : GritWatch.class.getDeclaredFields()) {
            int modifiers = field.getModifiers();
            Check.isTrue(field + " is seen", Modifier.isPrivate(modifiers));
            Check.isTrue(field + " can change", !Modifier.isStatic(modifiers) || Modifier.isFinal(modifiers));
        }
        for (Class<?> inside : GritWatch.class.getDeclaredClasses()) {
            Check.isTrue(inside + " is seen", !Modifier.isPublic(inside.getModifiers()));
            Check.isTrue(inside + " is not static", Modifier.isStatic(inside.getModifiers()));
            for (Method method : inside.getDeclaredMethods()) {
                Check.isTrue(method + " bears a public name", !face.contains(method.getName()));
            }
        }
    }
}
