import java.io.IOException;
import java.lang.reflect.Method;
import java.lang.reflect.Modifier;
import java.net.URI;
import java.net.URL;
import java.net.URLClassLoader;
import java.nio.file.Files;
import java.nio.file.Path;
import java.util.ArrayList;
import java.util.List;
import java.util.Set;
import java.util.TreeSet;
import java.util.function.BiConsumer;
import java.util.function.IntSupplier;
import java.util.regex.Matcher;
import java.util.regex.Pattern;
import javax.tools.JavaCompiler;
import javax.tools.JavaFileObject;
import javax.tools.SimpleJavaFileObject;
import javax.tools.StandardJavaFileManager;
import javax.tools.StandardLocation;
import javax.tools.ToolProvider;

/**
 * README.md: its uses of the class are made a program, and each call in it must answer what stands behind it;
 * the tests and the sentences of the document that README.md names must be there.
 */
final class ReadmeTest {
    private static final Due DUE = new Due("ReadmeTest");
    private static final Path README = Path.of("README.md");
    private static final Path DOCUMENT = Path.of("../shared/DOC.md");
    private static final Path TESTS = Path.of("src/test/java");
    private static final String UNIT = "ReadmeUses";
    private static final Pattern BLOCK = Pattern.compile("```java\n(.*?)```", Pattern.DOTALL);
    private static final Pattern USE =
        Pattern.compile("(?:int (\\w+) = )?(.*\\)); *// (-?\\d+|[A-Z]\\w+Exception)(?:: .*)?");
    private static final Pattern ROW_OF_A_TEST = Pattern.compile("\\| `(\\w+)` \\|.*");
    private static final Pattern NAME_OF_A_TEST = Pattern.compile("`(\\w*)(?:\\.(\\w+)(\\.\\.\\.)?)?`");

    /** The calls of README.md, and what each of them is to answer. */
    private static final List<String> CALLS = new ArrayList<>();
    private static final List<String> ANSWERS = new ArrayList<>();

    public static void main(String[] args) throws Exception {
        String readme = Files.readString(README);
        runUses(program(readme));
        allIsShown(readme);
        allTestsAreNamed(readme);
        sentences(readme);
        DUE.end();
    }

    // ---- the uses

    private static String program(String readme) {
        StringBuilder program = new StringBuilder("public class " + UNIT + " { public static void run("
            + "java.util.function.BiConsumer<Integer, java.util.function.IntSupplier> check) {\n");
        Matcher block = BLOCK.matcher(readme);
        while (block.find()) {
            for (String line : block.group(1).split("\n")) {
                program.append(statement(line)).append('\n');
            }
        }
        return program.append("} }\n").toString();
    }

    /** A line that tells an answer is made a check; any other line stays as it is. */
    private static String statement(String line) {
        Matcher use = USE.matcher(line);
        if (!use.matches()) {
            // a comment that is no answer would be a use that nothing checks
            DUE.text(line, "no comment", line.contains("//") ? "a comment" : "no comment");
            return line;
        }
        CALLS.add(use.group(2));
        ANSWERS.add(use.group(3));
        String check = "check.accept(" + (CALLS.size() - 1) + ", () -> ";
        String name = use.group(1);
        return name == null ? check + use.group(2) + ");"
            : "int " + name + " = " + use.group(2) + "; " + check + name + ");";
    }

    private static void runUses(String program) throws Exception {
        Path classes = Files.createTempDirectory("readme");
        try {
            DUE.text("compiling the uses", "true", "" + compile(program, classes));
            try (URLClassLoader loader = new URLClassLoader(new URL[] {classes.toUri().toURL()})) {
                Set<Integer> checked = new TreeSet<>();
                BiConsumer<Integer, IntSupplier> check = (k, call) -> {
                    checked.add(k);
                    DUE.text(CALLS.get(k), ANSWERS.get(k), Due.outcome(call));
                };
                loader.loadClass(UNIT).getMethod("run", BiConsumer.class).invoke(null, check);
                DUE.answer("the calls that are checked", CALLS.size(), checked::size);
            }
        } finally {
            Files.deleteIfExists(classes.resolve(UNIT + ".class"));
            Files.deleteIfExists(classes);
        }
    }

    private static boolean compile(String program, Path classes) throws IOException {
        JavaCompiler compiler = ToolProvider.getSystemJavaCompiler();
        try (StandardJavaFileManager files = compiler.getStandardFileManager(null, null, null)) {
            files.setLocationFromPaths(StandardLocation.CLASS_OUTPUT, List.of(classes));
            JavaFileObject source = new SimpleJavaFileObject(URI.create("string:///" + UNIT + ".java"),
                JavaFileObject.Kind.SOURCE) {
                @Override public CharSequence getCharContent(boolean ignoreEncodingErrors) {
                    return program;
                }
            };
            List<String> options = List.of("-proc:none", "-cp", System.getProperty("java.class.path"));
            return compiler.getTask(null, files, null, options, null, List.of(source)).call();
        }
    }

    private static void allIsShown(String readme) {
        String calls = String.join("\n", CALLS);
        for (Method method : SpoonCards.class.getDeclaredMethods()) {
            if (Modifier.isPublic(method.getModifiers())) {
                shown(method.getName(), calls.contains("." + method.getName() + "("));
            }
        }
        for (String thrown : new String[] {"IndexOutOfBounds", "IllegalArgument", "IllegalState"}) {
            shown(thrown, ANSWERS.contains(thrown + "Exception"));
        }
        shown("how the tests are run", readme.contains("    .ci/run\n"));
    }

    private static void shown(String what, boolean shown) {
        DUE.text(what + " in README.md", "shown", shown ? "shown" : "missing");
    }

    private static boolean exists(Path path) {
        return Files.isRegularFile(path);
    }

    // ---- the tables

    private static void allTestsAreNamed(String readme) throws IOException {
        Set<String> named = new TreeSet<>();
        for (String line : readme.split("\n")) {
            Matcher row = ROW_OF_A_TEST.matcher(line);
            if (row.matches()) named.add(row.group(1));
        }
        Set<String> there = new TreeSet<>();
        try (var files = Files.list(TESTS)) {
            files.map(file -> file.getFileName().toString()).filter(name -> name.endsWith("Test.java"))
                .forEach(name -> there.add(name.replace(".java", "")));
        }
        DUE.text("the tests in README.md", there.toString(), named.toString());
    }

    /** Each row of the last table: sentences of the document in quotes, and the tests that hold them. */
    private static void sentences(String readme) throws IOException {
        String document = Files.readString(DOCUMENT).replaceAll("\\s+", " ");
        int rows = 0;
        for (String line : readme.substring(readme.indexOf("## The edges")).split("\n")) {
            String[] cells = line.split(" *\\| *");
            if (cells.length == 3 && cells[2].startsWith("`")) {
                rows++;
                quotes(cells[1], document);
                tests(cells[2]);
            }
        }
        int found = rows;
        DUE.text("rows of sentences", "some", found > 40 ? "some" : "" + found);
    }

    private static void quotes(String cell, String document) {
        Matcher quote = Pattern.compile("\"([^\"]*)\"").matcher(cell);
        while (quote.find()) {
            int at = 0;
            for (String part : quote.group(1).split(" ?\\.\\.\\. ?")) {
                at = at < 0 ? at : document.indexOf(part, at);
            }
            DUE.text(quote.group() + " in the document", "found", at < 0 ? "missing" : "found");
        }
    }

    private static void tests(String cell) throws IOException {
        String source = "";
        Matcher name = NAME_OF_A_TEST.matcher(cell);
        while (name.find()) {
            if (!name.group(1).isEmpty() && !exists(TESTS.resolve(name.group(1) + ".java"))) {
                // `placeFirst`, in brackets behind the test that it stands in
                method(source, name.group(1), "(", cell);
                continue;
            }
            if (!name.group(1).isEmpty()) {
                source = Files.readString(TESTS.resolve(name.group(1) + ".java"));
            }
            if (name.group(2) != null) {
                method(source, name.group(2), name.group(3) == null ? "(" : "", cell);
            }
        }
    }

    private static void method(String source, String name, String end, String cell) {
        boolean there = source.contains("static void " + name + end);
        DUE.text("the test " + name + " of " + cell, "found", there ? "found" : "missing");
    }
}
