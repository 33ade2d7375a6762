import java.io.ByteArrayOutputStream;
import java.io.IOException;
import java.io.OutputStream;
import java.io.StringWriter;
import java.lang.invoke.MethodHandles;
import java.lang.reflect.Method;
import java.lang.reflect.Modifier;
import java.net.URI;
import java.nio.file.DirectoryStream;
import java.nio.file.Files;
import java.nio.file.Path;
import java.util.List;
import java.util.TreeSet;
import java.util.regex.Matcher;
import java.util.regex.Pattern;
import javax.tools.FileObject;
import javax.tools.ForwardingJavaFileManager;
import javax.tools.JavaCompiler;
import javax.tools.JavaFileManager;
import javax.tools.JavaFileObject;
import javax.tools.SimpleJavaFileObject;
import javax.tools.StandardJavaFileManager;
import javax.tools.ToolProvider;

/** What README.md says: its example compiles and answers as its remarks say, its tables name what there is. */
public final class ReadmeTest {
    private static final Pattern EXAMPLE = Pattern.compile("(?s)```java\n(.*?)```");
    private static final Pattern DUE = Pattern.compile("\\s*(?:int (\\w+) = )?(.*);\\s*// (answers|throws) ([\\w.-]+).*");
    private static final Pattern CALL = Pattern.compile("\\bx\\.(\\w+)\\(");

    private ReadmeTest() {
    }

    public static void main(String[] args) throws Exception {
        String readme = Files.readString(Path.of("README.md"));
        Matcher example = EXAMPLE.matcher(readme);
        Check.dueTrue("README.md has an example", example.find());
        List<String> lines = example.group(1).lines().toList();
        exampleHasDues(lines);
        runExample(lines);
        Check.dueTrue("README.md has one example", !example.find());
        tableOfCalls(readme);
        tableOfTests(readme);
        namedClasses(readme);
        Check.end("ReadmeTest");
    }

    /** Each line with a call of the object tells what is due, but for the one that appends a text. */
    private static void exampleHasDues(List<String> lines) {
        int dues = 0;
        for (String line : lines) {
            boolean due = DUE.matcher(line).matches();
            dues += due ? 1 : 0;
            boolean needsNone = !CALL.matcher(line).find() || line.contains("x.append(");
            Check.dueTrue("a remark tells what is due: " + line, due || needsNone);
        }
        Check.dueTrue("the example has " + dues + " remarks", dues >= 10);
    }

    private static void runExample(List<String> lines) throws Exception {
        StringBuilder source = new StringBuilder("final class ReadmeExample {\nstatic void run() {\n");
        for (String line : lines) {
            source.append(asTest(line)).append('\n');
        }
        byte[] example = compiled("ReadmeExample", source.append("}\n}\n").toString());
        Check.dueTrue("the example compiles", example.length > 0);
        if (example.length > 0) {
            Method run = MethodHandles.lookup().defineClass(example).getDeclaredMethod("run");
            run.setAccessible(true);
            run.invoke(null);
        }
    }

    private static String asTest(String line) {
        Matcher due = DUE.matcher(line);
        if (!due.matches()) {
            return line;
        }
        String variable = due.group(1);
        String call = due.group(2);
        String want = due.group(4);
        String label = "\"README.md: " + call.replace("\"", "\\\"") + "\", ";
        if (due.group(3).equals("throws")) {
            return "Check.dueThrow(" + label + "x, " + want + ".class, () -> " + call + ");";
        }
        String check = want.contains(".") ? "Check.dueDouble(" : "Check.due(";
        String first = variable == null ? "" : "int " + variable + " = " + call + ";\n";
        return first + check + label + (variable == null ? call : variable) + ", " + want + ");";
    }

    /** The bytes of a class that is compiled in memory, none if it does not compile. */
    private static byte[] compiled(String name, String source) throws IOException {
        JavaCompiler compiler = ToolProvider.getSystemJavaCompiler();
        Check.dueTrue("there is a compiler", compiler != null);
        ByteArrayOutputStream bytes = new ByteArrayOutputStream();
        StringWriter said = new StringWriter();
        try (StandardJavaFileManager files = compiler.getStandardFileManager(null, null, null)) {
            JavaFileManager memory = new ForwardingJavaFileManager<JavaFileManager>(files) {
                @Override
                public JavaFileObject getJavaFileForOutput(Location place, String type, JavaFileObject.Kind kind,
                        FileObject sibling) {
                    return new Written(type, kind, bytes);
                }
            };
            boolean fine = compiler.getTask(said, memory, null, List.of("-proc:none"), null,
                List.of(new Source(name, source))).call();
            if (!fine) {
                System.out.println(said);
                return new byte[0];
            }
        }
        return bytes.toByteArray();
    }

    private static final class Source extends SimpleJavaFileObject {
        private final String text;

        Source(String name, String text) {
            super(URI.create("string:///" + name + ".java"), Kind.SOURCE);
            this.text = text;
        }

        @Override
        public CharSequence getCharContent(boolean ignoreEncodingErrors) {
            return text;
        }
    }

    private static final class Written extends SimpleJavaFileObject {
        private final OutputStream bytes;

        Written(String name, Kind kind, OutputStream bytes) {
            super(URI.create("bytes:///" + name + kind.extension), kind);
            this.bytes = bytes;
        }

        @Override
        public OutputStream openOutputStream() {
            return bytes;
        }
    }

    private static void tableOfCalls(String readme) {
        TreeSet<String> methods = new TreeSet<>();
        for (Method method : BondLayers.class.getDeclaredMethods()) {
            if (Modifier.isPublic(method.getModifiers())) {
                methods.add(method.getName());
            }
        }
        TreeSet<String> named = namesIn(readme, "| calls |");
        Check.dueTrue("the calls of README.md are those of the class: " + named, named.equals(methods));
    }

    private static void tableOfTests(String readme) throws IOException {
        TreeSet<String> tests = new TreeSet<>();
        try (DirectoryStream<Path> files = Files.newDirectoryStream(Path.of("src/test/java"), "*Test.java")) {
            for (Path file : files) {
                tests.add(file.getFileName().toString().replace(".java", ""));
            }
        }
        TreeSet<String> named = namesIn(readme, "| test |");
        Check.dueTrue("the tests of README.md are those of the project: " + named, named.equals(tests));
    }

    /** The names between backquotes in the first column of the table that begins with this line. */
    private static TreeSet<String> namesIn(String readme, String head) {
        TreeSet<String> names = new TreeSet<>();
        boolean inTable = false;
        for (String line : readme.lines().toList()) {
            inTable = line.startsWith(head) || inTable && line.startsWith("|");
            if (inTable) {
                Matcher name = Pattern.compile("`(\\w+)`").matcher(line.split("\\|")[1]);
                while (name.find()) {
                    names.add(name.group(1));
                }
            }
        }
        return names;
    }

    /** "How it is built" names each class inside. */
    private static void namedClasses(String readme) {
        TreeSet<String> classes = new TreeSet<>();
        for (Class<?> inner : BondLayers.class.getDeclaredClasses()) {
            classes.add(inner.getSimpleName());
        }
        TreeSet<String> named = new TreeSet<>();
        Matcher name = Pattern.compile("(?m)^- `(\\w+)`:").matcher(readme);
        while (name.find()) {
            named.add(name.group(1));
        }
        Check.dueTrue("the classes of README.md are those inside: " + named, named.equals(classes));
    }
}
