import java.net.URL;
import java.net.URLClassLoader;
import java.nio.charset.StandardCharsets;
import java.nio.file.Files;
import java.nio.file.Path;
import java.util.ArrayList;
import java.util.List;
import java.util.regex.Matcher;
import java.util.regex.Pattern;
import javax.tools.ToolProvider;

// The README's example, compiled and run: each call answers what is told behind it.
public final class ReadmeTest {
  private static final Pattern CALL = Pattern.compile("(\\w.*\\)); +// (-?\\d+)");

  public static void main(String[] args) throws Exception {
    Path program = Path.of(args.length > 0 ? args[0] : "src/main/java/FairTurns.java").toAbsolutePath();
    Path root = program.getParent().getParent().getParent().getParent();
    List<String> blocks = blocksOfJava(Files.readString(root.resolve("README.md"), StandardCharsets.UTF_8));
    Due.by("README.md");
    Due.is("blocks of Java", blocks.size(), 2);
    run("final class Example { static void run() {\n" + asked(blocks.get(0)) + "}\n" + blocks.get(1) + "}\n");
    Due.close("ReadmeTest");
  }

  // Public, as the example is loaded by another loader.
  public static void due(String call, long got, long want) {
    Due.is(call, got, want);
  }

  private static List<String> blocksOfJava(String text) {
    List<String> all = new ArrayList<>();
    Matcher m = Pattern.compile("```java\n(.*?)```", Pattern.DOTALL).matcher(text);
    while (m.find()) all.add(m.group(1));
    return all;
  }

  // A call with its answer becomes one that is asked and held to it; another line stays as it is.
  private static String asked(String block) {
    StringBuilder text = new StringBuilder();
    int calls = 0;
    for (String line : block.split("\n")) {
      Matcher m = CALL.matcher(line);
      if (m.matches()) {
        calls++;
        text.append("ReadmeTest.due(\"").append(m.group(1).replace("\"", "'")).append("\", ").append(m.group(1)).append(", ").append(m.group(2)).append(");\n");
      } else {
        text.append(line).append('\n');
      }
    }
    Due.holds("calls with their answers: " + calls, calls > 20);
    return text.toString();
  }

  private static void run(String source) throws Exception {
    Path folder = Files.createTempDirectory("readme");
    Path file = folder.resolve("Example.java");
    Files.writeString(file, source);
    String path = System.getProperty("java.class.path");
    int code = ToolProvider.getSystemJavaCompiler().run(null, null, null, "-proc:none", "-cp", path, "-d", folder.toString(), file.toString());
    Due.is("javac of the example", code, 0);
    if (code != 0) return;
    try (URLClassLoader loader = new URLClassLoader(new URL[] {folder.toUri().toURL()}, ReadmeTest.class.getClassLoader())) {
      var method = loader.loadClass("Example").getDeclaredMethod("run");
      method.setAccessible(true);
      method.invoke(null);
    }
    for (String name : List.of("Example.class", "Example.java", "")) Files.deleteIfExists(folder.resolve(name));
  }
}
