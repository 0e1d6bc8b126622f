import java.io.IOException;
import java.lang.reflect.Method;
import java.lang.reflect.Modifier;
import java.net.URL;
import java.net.URLClassLoader;
import java.nio.file.Files;
import java.nio.file.Path;
import java.util.ArrayList;
import java.util.List;
import java.util.Set;
import java.util.TreeSet;
import java.util.function.Supplier;
import java.util.regex.Matcher;
import java.util.regex.Pattern;
import java.util.stream.Stream;

/**
 * What README.md shows: its pieces of Java are compiled as one program and run, and each call must answer what stands
 * behind it. It is run in the project's folder; the argument: another file to look at in place of README.md.
 */
public final class ReadmeTest {
    private static final Due DUE = new Due("ReadmeTest");
    private static final String CLASS_NAME = "ShownInReadme";

    /** A call on an object x, kept in a variable or not, and the answer that is told behind it. */
    private static final Pattern SHOWN =
            Pattern.compile("(?:(int|long) (\\w+) = )?(x\\.(\\w+)\\(.*\\)); +// (-?\\d+|NONE|BAD|NO|FULL|SPENT)(?:: .*)?");
    private static final Pattern CALL = Pattern.compile("\\bx\\s*\\.\\s*\\w+\\s*\\(");

    private final List<String> lines;
    private final StringBuilder program = new StringBuilder();
    private final List<String> calls = new ArrayList<>();
    private final List<Long> wanted = new ArrayList<>();
    private final Set<String> methods = new TreeSet<>();

    private ReadmeTest(List<String> lines) {
        this.lines = lines;
    }

    public static void main(String[] args) throws Exception {
        ReadmeTest test = new ReadmeTest(Files.readAllLines(Path.of(args.length > 0 ? args[0] : "README.md")));
        test.takePieces();
        test.answersAreDue();
        test.eachMethodIsShown();
        test.sortsAreAsTold();
        test.testsAreNamed();
        test.classesAreNamed();
        test.pathsAreThere();
        DUE.end();
    }

    private void takePieces() {
        boolean inPiece = false;
        for (int i = 0; i < lines.size(); i++) {
            String line = lines.get(i).strip();
            if (line.startsWith("```")) {
                inPiece = line.equals("```java");
            } else if (inPiece) {
                takeLine(i + 1, line);
            }
        }
        DUE.holds("calls are shown", !calls.isEmpty());
        DUE.holds("no more than 512 of them are", calls.size() <= 512);
    }

    private void takeLine(int number, String line) {
        Matcher shown = SHOWN.matcher(line);
        if (!shown.matches()) {
            DUE.holds("line " + number + " tells what its call answers", !CALL.matcher(line).find());
            program.append(line).append('\n');
            return;
        }
        String value = shown.group(3);
        if (shown.group(2) != null) {
            program.append(shown.group(1)).append(' ').append(shown.group(2)).append(" = ").append(value).append(";\n");
            value = shown.group(2);
        }
        program.append("told.add((long) ").append(value).append(");\n");
        calls.add("line " + number + ", " + shown.group(3));
        wanted.add(numberOf(shown.group(5)));
        methods.add(shown.group(4));
    }

    private static long numberOf(String answer) {
        switch (answer) {
            case "NONE": return StateWear.NONE;
            case "BAD": return StateWear.BAD;
            case "NO": return StateWear.NO;
            case "FULL": return StateWear.FULL;
            case "SPENT": return StateWear.SPENT;
            default: return Long.parseLong(answer);
        }
    }

    private void answersAreDue() throws Exception {
        Path folder = Files.createTempDirectory("readme");
        try {
            List<Long> told = run(folder);
            DUE.due("how many calls were run", told.size(), wanted.size());
            for (int i = 0; i < told.size() && i < wanted.size(); i++) DUE.due(calls.get(i), told.get(i), wanted.get(i));
        } finally {
            remove(folder);
        }
    }

    /** What each shown call answers; nothing if the pieces are no program. */
    private List<Long> run(Path folder) throws Exception {
        Path source = folder.resolve(CLASS_NAME + ".java");
        Files.writeString(source, "public final class " + CLASS_NAME
                + " implements java.util.function.Supplier<java.util.List<Long>> {\n"
                + "public java.util.List<Long> get() {\njava.util.List<Long> told = new java.util.ArrayList<>();\n"
                + program + "return told;\n}\n}\n");
        Process javac = new ProcessBuilder("javac", "--release", "17", "-cp", System.getProperty("java.class.path"),
                "-d", folder.toString(), source.toString()).redirectErrorStream(true).start();
        String said = new String(javac.getInputStream().readAllBytes());
        boolean compiled = javac.waitFor() == 0;
        DUE.holds("the pieces of Java are a program: " + said, compiled);
        if (!compiled) return List.of();
        try (URLClassLoader loader = new URLClassLoader(new URL[] {folder.toUri().toURL()})) {
            Supplier<?> shown = (Supplier<?>) loader.loadClass(CLASS_NAME).getDeclaredConstructor().newInstance();
            List<Long> told = new ArrayList<>();
            for (Object answer : (List<?>) shown.get()) told.add((Long) answer);
            return told;
        }
    }

    private static void remove(Path folder) throws IOException {
        try (Stream<Path> files = Files.list(folder)) {
            for (Path file : files.toList()) Files.delete(file);
        }
        Files.delete(folder);
    }

    private void eachMethodIsShown() {
        for (Method m : StateWear.class.getDeclaredMethods()) {
            if (Modifier.isPublic(m.getModifiers())) DUE.holds(m.getName() + "() is shown", methods.contains(m.getName()));
        }
    }

    /** The numbers of the STATEMENTS are those that the tests use. */
    private void sortsAreAsTold() throws ReflectiveOperationException {
        int sorts = 0;
        for (String line : lines) {
            if (!line.startsWith("final int MAKE") && !line.startsWith("final int NAME")) continue;
            Matcher sort = Pattern.compile("([A-Z]+) = (\\d+)").matcher(line);
            for (; sort.find(); sorts++) {
                int due = Sorts.class.getDeclaredField(sort.group(1)).getInt(null);
                DUE.due(sort.group(1), Integer.parseInt(sort.group(2)), due);
            }
        }
        DUE.due("how many sorts are told", sorts, 16);
    }

    /** Words in backticks, without those of the pieces of code. */
    private Set<String> named(String pattern) {
        Set<String> names = new TreeSet<>();
        Matcher word = Pattern.compile("(?<!`)`(" + pattern + ")`(?!`)").matcher(String.join("\n", lines));
        while (word.find()) names.add(word.group(1));
        return names;
    }

    private void testsAreNamed() throws IOException {
        Set<String> there = new TreeSet<>();
        try (Stream<Path> files = Files.list(Path.of("src/test/java"))) {
            files.map(file -> file.getFileName().toString()).filter(name -> name.endsWith("Test.java"))
                    .forEach(name -> there.add(name.substring(0, name.length() - ".java".length())));
        }
        Set<String> named = named("\\w+Test");
        DUE.holds("the tests that are named, " + named + ", are those that are there, " + there, named.equals(there));
    }

    private void classesAreNamed() {
        Set<String> there = new TreeSet<>();
        for (Class<?> inside : StateWear.class.getDeclaredClasses()) there.add(inside.getSimpleName());
        Set<String> named = named("[A-Z][a-z]+");
        for (String name : there) DUE.holds("the class " + name + " is named", named.contains(name));
        for (String name : named) {
            boolean known = there.contains(name) || Files.exists(Path.of("src/test/java", name + ".java"));
            DUE.holds(name + " is a class that is there", known);
        }
    }

    private void pathsAreThere() {
        Set<String> named = named("[\\w./]+/[\\w./]+");
        DUE.holds("the class's file is named", named.contains("src/main/java/StateWear.java"));
        for (String path : named) DUE.holds(path + " is there", Files.exists(Path.of(path)));
        DUE.holds(".ci/run is named", lines.contains(".ci/run"));
        DUE.holds(".ci/run can be run", Files.isExecutable(Path.of(".ci/run")));
    }
}
