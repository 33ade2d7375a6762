import java.lang.reflect.Constructor;
import java.lang.reflect.Field;
import java.lang.reflect.Method;
import java.lang.reflect.Modifier;
import java.nio.file.Files;
import java.nio.file.Path;
import java.util.Arrays;
import java.util.List;
import java.util.TreeSet;

/** The public face as the document writes it, and the rules of LANGUAGE.md that can be looked up. */
public final class FaceTest {
    private static final String[] FACE = {
        "int bring(int, int) IndexOutOfBoundsException IllegalArgumentException",
        "int takeOut(int, int) IndexOutOfBoundsException IllegalArgumentException IllegalStateException",
        "int guarantee(int, int, int) IndexOutOfBoundsException IllegalArgumentException IllegalStateException",
        "int repay(int, int, int) IndexOutOfBoundsException IllegalArgumentException IllegalStateException",
        "int set(int, int) IndexOutOfBoundsException IllegalArgumentException",
        "int call(int, int, int) IndexOutOfBoundsException IllegalArgumentException IllegalStateException",
        "int reach(int) IndexOutOfBoundsException IllegalStateException",
        "int end(int) IndexOutOfBoundsException IllegalStateException",
        "int append(int) IllegalArgumentException IllegalStateException",
        "int clearBuffer()",
        "int firstError()",
        "int give() IllegalArgumentException IllegalStateException",
        "int undo() IllegalStateException",
        "int person(int, int) IndexOutOfBoundsException IllegalArgumentException",
        "int bond(int, int) IndexOutOfBoundsException IllegalArgumentException",
        "int layer(int, int, int) IndexOutOfBoundsException IllegalArgumentException",
        "int debt(int, int) IndexOutOfBoundsException",
        "int count(int) IllegalArgumentException",
        "int setting(int) IndexOutOfBoundsException",
        "int ifCalled(int, int, int) IndexOutOfBoundsException IllegalArgumentException",
        "int thin(int) IndexOutOfBoundsException",
        "int worst()",
        "int spare(int) IndexOutOfBoundsException",
        "double paidShare()",
        "long digest()",
    };

    private FaceTest() {
    }

    public static void main(String[] args) throws Exception {
        methodsAreTheFace();
        classConstructorAndConstants();
        innerNamesDiffer();
        sourceKeepsToTheLanguage();
        Check.end("FaceTest");
    }

    private static void methodsAreTheFace() {
        TreeSet<String> want = new TreeSet<>(Arrays.asList(FACE));
        TreeSet<String> got = new TreeSet<>();
        for (Method method : BondLayers.class.getDeclaredMethods()) {
            if (!Modifier.isPrivate(method.getModifiers()) && !method.isSynthetic()) {
                Check.dueTrue(method.getName() + " is public", Modifier.isPublic(method.getModifiers()));
                got.add(faceOf(method));
            }
        }
        Check.dueTrue("the methods are " + want + ", they are " + got, got.equals(want));
    }

    private static String faceOf(Method method) {
        StringBuilder face = new StringBuilder();
        face.append(method.getReturnType().getSimpleName()).append(' ').append(method.getName()).append('(');
        Class<?>[] parameters = method.getParameterTypes();
        for (int index = 0; index < parameters.length; index++) {
            face.append(index == 0 ? "" : ", ").append(parameters[index].getSimpleName());
        }
        face.append(')');
        for (Class<?> thrown : method.getExceptionTypes()) {
            face.append(' ').append(thrown.getSimpleName());
        }
        return face.toString();
    }

    private static void classConstructorAndConstants() {
        int modifiers = BondLayers.class.getModifiers();
        Check.dueTrue("public and final", Modifier.isPublic(modifiers) && Modifier.isFinal(modifiers));
        Check.dueTrue("no package", BondLayers.class.getPackageName().isEmpty());
        Constructor<?>[] constructors = BondLayers.class.getDeclaredConstructors();
        Check.due("constructors", constructors.length, 1);
        Check.due("constructor's parameters", constructors[0].getParameterCount(), 0);
        Check.dueTrue("constructor is public", Modifier.isPublic(constructors[0].getModifiers()));
        for (Field field : BondLayers.class.getDeclaredFields()) {
            boolean isPrivate = Modifier.isPrivate(field.getModifiers());
            Check.dueTrue(field + " is private or NONE", isPrivate || field.getName().equals("NONE"));
            Check.dueTrue(field + " is final", Modifier.isFinal(field.getModifiers()));
        }
        Check.due("NONE", BondLayers.NONE, -1);
    }

    private static void innerNamesDiffer() {
        TreeSet<String> names = new TreeSet<>();
        for (Method method : BondLayers.class.getMethods()) {
            names.add(method.getName());
        }
        for (Class<?> inner : BondLayers.class.getDeclaredClasses()) {
            Check.dueTrue(inner + " is not public", !Modifier.isPublic(inner.getModifiers()));
            Check.dueTrue(inner + " is static", Modifier.isStatic(inner.getModifiers()));
            for (Method method : inner.getDeclaredMethods()) {
                Check.dueTrue(method + " has a name of its own", !names.contains(method.getName()));
            }
        }
    }

    private static void sourceKeepsToTheLanguage() throws Exception {
        String source = Files.readString(Path.of("src/main/java/BondLayers.java"));
        List<String> ruledOut = List.of("->", "::", "synchronized", "assert", "finally", "Exact(", "Double.",
            "doubleToLongBits", "System.out", "catch (", "equals(", "hashCode", "toString", "package ", "import ");
        String code = source.replaceAll("(?s)/\\*.*?\\*/", "").replaceAll("//[^\n]*", "");
        for (String word : ruledOut) {
            Check.dueTrue("no " + word, !code.contains(word));
        }
    }
}
