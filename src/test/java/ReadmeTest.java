import java.io.IOException;
import java.net.URL;
import java.net.URLClassLoader;
import java.nio.file.Files;
import java.nio.file.Path;
import java.util.regex.Matcher;
import java.util.regex.Pattern;
import javax.tools.ToolProvider;

/** README.md's example is compiled and run: each line that ends with "// = answer" must answer so. */
public final class ReadmeTest {
  private static final Pattern BLOCK = Pattern.compile("```java\n(.*?)```", Pattern.DOTALL);
  private static final Pattern ANSWERS = Pattern.compile("\\s*(?:\\w+ (\\w+) = )?(.*);\\s*// = (-?\\d+|true|false)\\b.*");

  private static int rows = 0;

  /** The lines of the example, each answer compared with the one that README.md tells. */
  private static String program(String readme) {
    Matcher block = BLOCK.matcher(readme);
    StringBuilder code = new StringBuilder("public final class Example { public static int wrong = 0;\n");
    code.append("static void due(String call, Object got, String want) { if (!String.valueOf(got).equals(want)) {\n");
    code.append("wrong++; System.out.println(call + \" answers \" + got + \", README.md tells \" + want); } }\n");
    code.append("public static void run() {\n");
    while (block.find()) for (String line : block.group(1).split("\n")) code.append(checked(line)).append('\n');
    return code.append("} }\n").toString();
  }

  private static String checked(String line) {
    Matcher answers = ANSWERS.matcher(line);
    if (!answers.matches()) return line;
    rows++;
    String name = answers.group(1), call = answers.group(2), want = answers.group(3);
    String due = "due(\"" + call + "\", " + (name == null ? call : name) + ", \"" + want + "\");";
    return name == null ? due : line + "\n" + due;
  }

  public static void main(String[] args) throws IOException, ReflectiveOperationException {
    Path folder = Files.createTempDirectory("readme");
    Path file = folder.resolve("Example.java");
    Files.writeString(file, program(Files.readString(Path.of("README.md"))));
    String classes = System.getProperty("java.class.path");
    int failed = ToolProvider.getSystemJavaCompiler().run(null, null, null, "-cp", classes, "-d", folder.toString(), file.toString());
    int wrong = 0;
    if (failed == 0) {
      try (URLClassLoader loader = new URLClassLoader(new URL[] {folder.toUri().toURL()})) {
        Class<?> example = loader.loadClass("Example");
        example.getMethod("run").invoke(null);
        wrong = example.getField("wrong").getInt(null);
      }
    }
    for (String name : new String[] {"Example.class", "Example.java"}) Files.deleteIfExists(folder.resolve(name));
    Files.deleteIfExists(folder);
    System.out.println(rows + " rows of README.md's example, " + wrong + " wrong");
    if (failed != 0 || wrong != 0 || rows == 0) System.exit(1);
  }
}
