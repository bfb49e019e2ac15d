import java.io.ByteArrayOutputStream;
import java.io.IOException;
import java.io.PrintStream;
import java.lang.reflect.Method;
import java.net.URL;
import java.net.URLClassLoader;
import java.nio.file.Files;
import java.nio.file.Path;
import java.util.ArrayList;
import java.util.Arrays;
import java.util.HashSet;
import java.util.List;
import java.util.Set;
import java.util.regex.Matcher;
import java.util.regex.Pattern;
import javax.tools.ToolProvider;

/**
 * What README.md says of the class: its programs print what it says, its calls answer
 * what stands behind them, and its tables name all calls with what they throw.
 */
public final class ReadmeTest {
    private static final Pattern BLOCK = Pattern.compile("(?ms)^```(\\w+)\\n(.*?)^```$");
    private static final Pattern PROGRAM = Pattern.compile("public final class (\\w+)");
    /** A call, whether its answer is kept or not, and what is said of it. */
    private static final Pattern TOLD = Pattern.compile(
            "(?:int (\\w+) = )?(land\\.\\w+\\(.*\\)); +// (-?\\d+|\\w+Exception)(?::.*)?");
    private static final Pattern ROW = Pattern.compile("(?m)^\\| `(\\w+)\\((.*?)\\)` \\|.*\\|(.*)\\|$");
    private static final Pattern EXCEPTION = Pattern.compile("\\w+Exception");

    /** A piece of the page, as a class of its own, and what the page says that it prints. */
    private record Piece(String name, String source, String printed) {
    }

    public static void main(String[] args) throws Exception {
        String page = Files.readString(Path.of("README.md"));
        List<Piece> pieces = pieces(page);
        Check.so("README.md has examples", pieces.size() > 1);
        Path folder = Files.createTempDirectory("readme");
        try {
            for (Piece piece : pieces) {
                look(piece, folder);
            }
        } finally {
            remove(folder);
        }
        rows(page);
        Check.end("ReadmeTest");
    }

    /** A whole program prints the text behind it; other lines of Java tell their answers themselves. */
    private static List<Piece> pieces(String page) {
        List<Piece> pieces = new ArrayList<>();
        String program = null;
        Matcher block = BLOCK.matcher(page);
        while (block.find()) {
            Matcher name = PROGRAM.matcher(block.group(2));
            if (block.group(1).equals("text") && program != null) {
                Matcher named = PROGRAM.matcher(program);
                Check.so("a program has a name", named.find());
                pieces.add(new Piece(named.group(1), program, block.group(2)));
                program = null;
            } else if (block.group(1).equals("java") && name.find()) {
                program = block.group(2);
            } else if (block.group(1).equals("java")) {
                pieces.add(lines("Lines" + pieces.size(), block.group(2)));
            }
        }
        Check.so("what a program prints stands behind it", program == null);
        return pieces;
    }

    /** Makes a program of lines, which prints each line with what it answers. */
    private static Piece lines(String name, String lines) {
        StringBuilder source = new StringBuilder();
        StringBuilder printed = new StringBuilder();
        source.append("public final class " + name + " {\n"
                + "static void thrown(String call, Runnable run) { String got = \"nothing\";\n"
                + "try { run.run(); } catch (RuntimeException e) { got = e.getClass().getSimpleName(); }\n"
                + "System.out.println(call + got); }\n"
                + "public static void main(String[] args) {\n");
        for (String line : lines.split("\n")) {
            Matcher told = TOLD.matcher(line);
            if (told.matches()) {
                String call = told.group(2) + ": ";
                source.append(asking(told, call)).append('\n');
                printed.append(call).append(told.group(3)).append('\n');
            } else {
                Check.so("an answer that can be looked at: " + line, !line.contains("//"));
                source.append(line).append('\n');
            }
        }
        return new Piece(name, source.append("}\n}\n").toString(), printed.toString());
    }

    private static String asking(Matcher told, String call) {
        if (told.group(3).endsWith("Exception")) {
            return "thrown(\"" + call + "\", () -> " + told.group(2) + ");";
        }
        String name = told.group(1);
        if (name == null) {
            return "System.out.println(\"" + call + "\" + " + told.group(2) + ");";
        }
        return "int " + name + " = " + told.group(2) + "; System.out.println(\"" + call + "\" + " + name + ");";
    }

    private static void look(Piece piece, Path folder) throws Exception {
        Path file = folder.resolve(piece.name() + ".java");
        Files.writeString(file, piece.source());
        int failed = ToolProvider.getSystemJavaCompiler().run(null, null, null, "-d", folder.toString(),
                "-cp", System.getProperty("java.class.path"), file.toString());
        Check.due("compiling " + piece.name(), failed, 0);
        if (failed == 0) {
            String[] got = printed(piece.name(), folder).split("\n");
            String[] want = piece.printed().split("\n");
            Check.due("lines of " + piece.name(), got.length, want.length);
            for (int i = 0; i < Math.min(got.length, want.length); i++) {
                Check.so("README.md says <" + want[i] + ">, but it is <" + got[i] + ">", got[i].equals(want[i]));
            }
        }
    }

    private static String printed(String name, Path folder) throws Exception {
        PrintStream out = System.out;
        ByteArrayOutputStream bytes = new ByteArrayOutputStream();
        try (URLClassLoader loader = new URLClassLoader(new URL[] {folder.toUri().toURL()})) {
            System.setOut(new PrintStream(bytes, true));
            loader.loadClass(name).getMethod("main", String[].class).invoke(null, (Object) new String[0]);
        } finally {
            System.setOut(out);
        }
        return bytes.toString();
    }

    private static void remove(Path folder) throws IOException {
        try (var files = Files.list(folder)) {
            for (Path file : files.toList()) {
                Files.delete(file);
            }
        }
        Files.delete(folder);
    }

    /** Each call has a row, with its arguments and what it throws, in the order of the class. */
    private static void rows(String page) {
        Set<String> named = new HashSet<>();
        Matcher row = ROW.matcher(page);
        while (row.find()) {
            String name = row.group(1);
            Check.so("one row of " + name, named.add(name));
            Method method = method(name);
            Check.so("a method " + name, method != null);
            if (method != null) {
                int arguments = row.group(2).isEmpty() ? 0 : row.group(2).split(", ").length;
                Check.due("arguments of " + name, arguments, method.getParameterCount());
                List<String> declared = Arrays.stream(method.getExceptionTypes()).map(Class::getSimpleName).toList();
                List<String> said = EXCEPTION.matcher(row.group(3)).results().map(found -> found.group()).toList();
                Check.so(name + " throws " + declared + ", README.md says " + said, declared.equals(said));
            }
        }
        Check.due("calls in README.md", named.size(), 19);
    }

    private static Method method(String name) {
        for (Method method : Wakeground.class.getMethods()) {
            if (method.getName().equals(name) && method.getDeclaringClass() == Wakeground.class) {
                return method;
            }
        }
        return null;
    }
}
