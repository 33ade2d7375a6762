import java.lang.reflect.Constructor;
import java.lang.reflect.Field;
import java.lang.reflect.Method;
import java.lang.reflect.Modifier;
import java.nio.file.Files;
import java.nio.file.Path;
import java.util.ArrayList;
import java.util.Arrays;
import java.util.List;
import java.util.Set;
import java.util.TreeSet;
import java.util.regex.Matcher;
import java.util.regex.Pattern;

/** The public face as the document writes it, and the rules of LANGUAGE.md that can be looked up. */
public final class FaceTest {
    private static final String INDEX = "IndexOutOfBoundsException";
    private static final String ARGUMENT = "IllegalArgumentException";
    private static final String STATE = "IllegalStateException";

    /** The remarks and methods of the face in their order, with the names of the parameters. */
    private static final String[] FACE = {
        "// ---- persons",
        "int bring(int person, int amount) throws " + INDEX + ", " + ARGUMENT,
        "int takeOut(int person, int amount) throws " + INDEX + ", " + ARGUMENT + ", " + STATE,
        "int guarantee(int person, int guarantor, int percent) throws " + INDEX + ", " + ARGUMENT + ", " + STATE,
        "int repay(int person, int other, int amount) throws " + INDEX + ", " + ARGUMENT + ", " + STATE,
        "int set(int setting, int value) throws " + INDEX + ", " + ARGUMENT,
        "// ---- bonds",
        "int call(int bond, int amount, int proof) throws " + INDEX + ", " + ARGUMENT + ", " + STATE,
        "int reach(int bond) throws " + INDEX + ", " + STATE,
        "int end(int bond) throws " + INDEX + ", " + STATE,
        "// ---- texts",
        "int append(int code) throws " + ARGUMENT + ", " + STATE,
        "int clearBuffer()",
        "int firstError()",
        "int give() throws " + ARGUMENT + ", " + STATE,
        "int undo() throws " + STATE,
        "// ---- looks; nothing is changed",
        "int person(int person, int what) throws " + INDEX + ", " + ARGUMENT,
        "int bond(int bond, int what) throws " + INDEX + ", " + ARGUMENT,
        "int layer(int bond, int layer, int what) throws " + INDEX + ", " + ARGUMENT,
        "int debt(int person, int other) throws " + INDEX,
        "int count(int what) throws " + ARGUMENT,
        "int setting(int setting) throws " + INDEX,
        "// ---- what would be; nothing is changed",
        "int ifCalled(int bond, int amount, int what) throws " + INDEX + ", " + ARGUMENT,
        "int thin(int bond) throws " + INDEX,
        "int worst()",
        "int spare(int person) throws " + INDEX,
        "double paidShare()",
        "long digest()",
    };

    /** LANGUAGE.md rule 4: what stands ahead of a dot with a capital letter, and behind it. */
    private static final Set<String> LIBRARY = Set.of("System.arraycopy", "Math.min", "Math.max");

    private FaceTest() {
    }

    public static void main(String[] args) throws Exception {
        String source = Files.readString(Path.of("src/main/java/BondLayers.java"));
        methodsAreTheFace();
        faceInItsOrder(source);
        classConstructorAndConstants();
        innerClasses();
        fieldsAndParameters(BondLayers.class);
        for (Class<?> inner : BondLayers.class.getDeclaredClasses()) {
            fieldsAndParameters(inner);
        }
        String code = source.replaceAll("(?s)/\\*.*?\\*/", "").replaceAll("//[^\n]*", "");
        sourceKeepsToTheLanguage(code);
        libraryThatIsListed(code);
        methodsAreShort(code);
        Check.end("FaceTest");
    }

    private static void methodsAreTheFace() {
        TreeSet<String> want = new TreeSet<>();
        for (String line : FACE) {
            if (!line.startsWith("//")) {
                want.add(line.replaceAll("int \\w+([,)])", "int$1"));
            }
        }
        TreeSet<String> got = new TreeSet<>();
        for (Method method : BondLayers.class.getDeclaredMethods()) {
            if (!Modifier.isPrivate(method.getModifiers()) && !method.isSynthetic()) {
                Check.dueTrue(method.getName() + " is public", Modifier.isPublic(method.getModifiers()));
                Check.dueTrue(method.getName() + " is of objects", !Modifier.isStatic(method.getModifiers()));
                got.add(faceOf(method));
            }
        }
        Check.dueTrue("the methods are " + want + ", they are " + got, got.equals(want));
    }

    private static String faceOf(Method method) {
        List<String> parameters = new ArrayList<>();
        for (Class<?> parameter : method.getParameterTypes()) {
            parameters.add(parameter.getSimpleName());
        }
        List<String> exceptions = new ArrayList<>();
        for (Class<?> thrown : method.getExceptionTypes()) {
            exceptions.add(thrown.getSimpleName());
        }
        return method.getReturnType().getSimpleName() + " " + method.getName() + "(" + String.join(", ", parameters)
            + ")" + (exceptions.isEmpty() ? "" : " throws " + String.join(", ", exceptions));
    }

    /** "Ahead of the calls .. the interface says: ---- persons", and so on. */
    private static void faceInItsOrder(String source) {
        String text = source.replaceAll("\\s+", " ");
        int place = 0;
        for (String line : FACE) {
            String sought = line.startsWith("//") ? line + " /**" : "public " + line + " {";
            int found = text.indexOf(sought, place);
            Check.dueTrue("in its order: " + sought, found >= 0);
            Check.dueTrue("once: " + sought, text.indexOf(sought) == text.lastIndexOf(sought));
            place = Math.max(place, found);
        }
    }

    private static void classConstructorAndConstants() throws Exception {
        int modifiers = BondLayers.class.getModifiers();
        Check.dueTrue("public and final", Modifier.isPublic(modifiers) && Modifier.isFinal(modifiers));
        Check.dueTrue("no package", BondLayers.class.getPackageName().isEmpty());
        Check.dueTrue("of nothing else", BondLayers.class.getSuperclass() == Object.class
            && BondLayers.class.getInterfaces().length == 0);
        Constructor<?>[] constructors = BondLayers.class.getDeclaredConstructors();
        Check.due("constructors", constructors.length, 1);
        Check.due("constructor's parameters", constructors[0].getParameterCount(), 0);
        Check.due("constructor's exceptions", constructors[0].getExceptionTypes().length, 0);
        Check.dueTrue("constructor is public", Modifier.isPublic(constructors[0].getModifiers()));
        for (Field field : BondLayers.class.getDeclaredFields()) {
            boolean isPrivate = Modifier.isPrivate(field.getModifiers());
            Check.dueTrue(field + " is private or NONE", isPrivate || field.getName().equals("NONE"));
            Check.dueTrue(field + " is final", Modifier.isFinal(field.getModifiers()));
        }
        Field none = BondLayers.class.getDeclaredField("NONE");
        Check.due("NONE is public static final", none.getModifiers(),
            Modifier.PUBLIC | Modifier.STATIC | Modifier.FINAL);
        Check.dueTrue("NONE is an int", none.getType() == int.class);
        Check.due("NONE", BondLayers.NONE, -1);
    }

    /** LANGUAGE.md rules 1, 2 and 11: names, modifiers and number of the classes inside. */
    private static void innerClasses() {
        TreeSet<String> names = new TreeSet<>();
        for (Method method : BondLayers.class.getMethods()) {
            names.add(method.getName());
        }
        Class<?>[] all = BondLayers.class.getDeclaredClasses();
        Check.dueTrue(all.length + " classes inside", all.length <= 12);
        for (Class<?> inner : all) {
            Check.dueTrue(inner + " is not public", !Modifier.isPublic(inner.getModifiers()));
            Check.dueTrue(inner + " is static", Modifier.isStatic(inner.getModifiers()));
            for (Method method : inner.getDeclaredMethods()) {
                Check.dueTrue(method + " has a name of its own", !names.contains(method.getName()));
            }
        }
    }

    /** LANGUAGE.md rules 3, 5 and 11: static fields are constants, some twenty others, seven parameters. */
    private static void fieldsAndParameters(Class<?> type) {
        int own = 0;
        for (Field field : type.getDeclaredFields()) {
            if (Modifier.isStatic(field.getModifiers())) {
                Check.dueTrue(field + " is a constant", Modifier.isFinal(field.getModifiers())
                    && field.getType() == int.class);
            } else {
                own++;
            }
        }
        Check.dueTrue(type + " has " + own + " fields", own <= 20);
        for (Method method : type.getDeclaredMethods()) {
            Check.dueTrue(method + " has at most seven parameters", method.getParameterCount() <= 7);
        }
    }

    private static void sourceKeepsToTheLanguage(String code) {
        List<String> ruledOut = List.of("->", "::", "synchronized", "assert", "finally", "Exact(", "Double.",
            "doubleToLongBits", "System.out", "catch", "equals(", "hashCode", "toString", "package ", "import ",
            "instanceof", "volatile", "native", "static {", "\" +", "+ \"", "float", "?.", "while (true)", "for (;;)");
        for (String word : ruledOut) {
            Check.dueTrue("no " + word, !code.contains(word));
        }
        for (String thrown : allOf(code, "throw ([^;]*);")) {
            Check.dueTrue("a written exception: " + thrown, thrown.matches(
                "new (" + INDEX + "|" + ARGUMENT + "|" + STATE + ")\\(\"[^\"]*\"\\)"));
        }
        Check.dueTrue("signs are 32 to 126 alone", code.matches("[\\n -~]*"));
    }

    private static void libraryThatIsListed(String code) {
        TreeSet<String> own = new TreeSet<>(List.of("BondLayers"));
        for (Class<?> inner : BondLayers.class.getDeclaredClasses()) {
            own.add(inner.getSimpleName());
        }
        for (String used : allOf(code, "\\b([A-Z][a-z]\\w*\\.\\w+)")) {
            boolean isOwn = own.contains(used.substring(0, used.indexOf('.')));
            Check.dueTrue(used + " is listed", isOwn || LIBRARY.contains(used));
        }
        for (String made : allOf(code, "new (\\w+)\\(")) {
            Check.dueTrue("new " + made, own.contains(made) || made.endsWith("Exception"));
        }
    }

    private static List<String> allOf(String code, String pattern) {
        List<String> all = new ArrayList<>();
        Matcher matcher = Pattern.compile(pattern).matcher(code);
        while (matcher.find()) {
            all.add(matcher.group(1));
        }
        Check.dueTrue("there are some of " + pattern, !all.isEmpty());
        return all;
    }

    /** LANGUAGE.md rule 11: "Methods stay short (some sixty lines)". */
    private static void methodsAreShort(String code) {
        List<String> lines = Arrays.asList(code.split("\n"));
        int methods = 0;
        int begin = -1;
        String indent = "";
        for (int number = 0; number < lines.size(); number++) {
            String line = lines.get(number);
            String inset = line.replaceAll("\\S.*", "");
            if (begin < 0 && line.matches("( {4}| {8})\\w.*") && !line.contains(" class ") && !line.endsWith(";")
                    && !line.endsWith("}")) {
                begin = number;
                indent = inset;
            } else if (begin >= 0 && line.equals(indent + "}")) {
                Check.dueTrue(lines.get(begin) + " has " + (number - begin) + " lines", number - begin <= 60);
                methods++;
                begin = -1;
            }
        }
        Check.dueTrue(methods + " methods were found", methods > 100);
    }
}
