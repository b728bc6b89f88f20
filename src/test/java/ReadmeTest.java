import java.nio.file.Files;
import java.nio.file.Path;
import java.util.regex.Matcher;
import java.util.regex.Pattern;
import javax.tools.ToolProvider;

/** Runs the calls that README.md shows (promises 1 to 14, 18, 19, 26, 33) and holds each against the answer told there. */
public final class ReadmeTest {
  private static final Pattern CALL = Pattern.compile("(int \\w+ = )?(x\\.\\w+\\(.*?\\)); // (-?\\d+): .*");

  public static void main(String[] args) throws Exception {
    Path folder = Files.createTempDirectory("readme");
    try {
      run(folder, shown(Files.readString(Path.of("README.md"))));
    } finally {
      for (String name : new String[] {"Shown.java", "Shown.class"}) Files.deleteIfExists(folder.resolve(name));
      Files.delete(folder);
    }
    Due.end("ReadmeTest");
  }

  private static void run(Path folder, String program) throws Exception {
    Path file = folder.resolve("Shown.java");
    Files.writeString(file, program);
    String path = System.getProperty("java.class.path");
    int code = ToolProvider.getSystemJavaCompiler().run(null, null, null, "-cp", path, "-d", folder.toString(),
        file.toString());
    Due.due("README.md's calls compile", code, 0);
    if (code != 0) return;
    java.net.URL[] urls = {folder.toUri().toURL()};
    try (java.net.URLClassLoader loader = new java.net.URLClassLoader(urls, ReadmeTest.class.getClassLoader())) {
      long[][] rows = (long[][]) loader.loadClass("Shown").getMethod("rows").invoke(null);
      Due.due("README.md shows some calls", rows.length > 10 ? 1 : 0, 1);
      for (int k = 0; k < rows.length; k++) Due.due("README.md, call " + k, rows[k][0], rows[k][1]);
    }
  }

  /** The lines of README.md's java, as a class that answers what each call answered and what is said of it. */
  private static String shown(String readme) {
    Matcher block = Pattern.compile("(?s)```java\n(.*?)```").matcher(readme);
    StringBuilder program = new StringBuilder("public class Shown { public static long[][] rows() {\n");
    program.append("java.util.List<long[]> rows = new java.util.ArrayList<>();\n");
    for (String line : block.find() ? block.group(1).split("\n") : new String[0]) {
      Matcher call = CALL.matcher(line);
      if (!call.matches()) {
        // A call without its answer would be shown, but held by nothing.
        Due.due("an answer is told: " + line, line.contains("x.") ? 1 : 0, 0);
        program.append(line).append('\n');
      } else if (call.group(1) == null) {
        program.append("rows.add(new long[] {" + call.group(2) + ", " + call.group(3) + "});\n");
      } else {
        String name = call.group(1).split(" ")[1];
        program.append(call.group(1) + call.group(2) + ";\n");
        program.append("rows.add(new long[] {" + name + ", " + call.group(3) + "});\n");
      }
    }
    return program + "return rows.toArray(new long[0][]); } }\n";
  }
}
