import java.io.IOException;
import java.nio.file.Files;
import java.nio.file.Path;
import java.util.ArrayList;
import java.util.List;
import java.util.regex.Matcher;
import java.util.regex.Pattern;
import java.util.stream.Stream;

/**
 * What README.md shows as an answer is what the class answers: its examples are made into a program of their own,
 * in which each call with a number behind // must answer that number, and that program is compiled and run.
 */
public final class ReadmeTests {
  private static final Pattern BLOCK = Pattern.compile("(?ms)^```java\\n(.*?)^```$");
  private static final Pattern ANSWER = Pattern.compile("^(x\\.\\w+\\(.*?\\)); +// (-?\\d+)(?:: .*)?$");
  private static final Pattern THROW = Pattern.compile("^(x\\.\\w+\\(.*?\\)); +// throws (\\w+)$");
  private static final Pattern CALL = Pattern.compile("(?m)^  public (?:int|long) (\\w+)\\(");

  public static void main(String[] args) throws IOException, InterruptedException {
    String page = Files.readString(Path.of("README.md"));
    runsAsShown(page);
    showsEachCall(page);
    namesEachTest(page);
    Check.end();
  }

  private static void runsAsShown(String page) throws IOException, InterruptedException {
    Path folder = Files.createTempDirectory("readme");
    Path program = folder.resolve("ReadmeExample.java");
    String classes = System.getProperty("java.class.path");
    try {
      Files.writeString(program, programOf(page));
      Check.due("README.md compiles", run("javac", "-encoding", "UTF-8", "-cp", classes, "-d", folder.toString(),
          program.toString()), 0);
      String all = folder + System.getProperty("path.separator") + classes;
      Check.due("README.md answers as it shows", run("java", "-cp", all, "ReadmeExample"), 0);
    } finally {
      removeAll(folder);
    }
  }

  /** Blocks that begin with static are helpers; all others follow one another on the same object. */
  private static String programOf(String page) {
    StringBuilder helpers = new StringBuilder();
    StringBuilder body = new StringBuilder();
    int shown = 0;
    Matcher blocks = BLOCK.matcher(page);
    while (blocks.find()) {
      String block = blocks.group(1);
      if (block.startsWith("static ")) {
        helpers.append(block);
        continue;
      }
      for (String line : block.split("\n")) {
        String checked = checkedLine(line);
        shown += checked.equals(line) ? 0 : 1;
        Check.holds("<" + line + "> shows an answer, or none", checked.equals(line) != line.contains("//"));
        body.append(checked).append('\n');
      }
    }
    Check.holds("README.md shows answers", shown > 0);
    return "public final class ReadmeExample {\n" + helpers + "public static void main(String[] args) {\n" + body
        + "Check.end();\n}\n}\n";
  }

  private static String checkedLine(String line) {
    Matcher answer = ANSWER.matcher(line);
    if (answer.matches()) {
      String call = answer.group(1);
      return "Check.due(\"README.md: " + call + "\", " + call + ", " + answer.group(2) + "L);";
    }
    Matcher thrown = THROW.matcher(line);
    if (thrown.matches()) {
      String call = thrown.group(1);
      return "try { " + call + "; Check.holds(\"README.md: " + call + " throws\", false); } catch ("
          + thrown.group(2) + " e) { Check.holds(\"thrown\", true); }";
    }
    return line;
  }

  private static int run(String... command) throws IOException, InterruptedException {
    return new ProcessBuilder(command).inheritIO().start().waitFor();
  }

  private static void removeAll(Path folder) throws IOException {
    try (Stream<Path> files = Files.list(folder)) {
      for (Path file : files.toList()) {
        Files.delete(file);
      }
    }
    Files.delete(folder);
  }

  private static void showsEachCall(String page) throws IOException {
    Matcher calls = CALL.matcher(Files.readString(Path.of("src/main/java/GearTeeth.java")));
    List<String> missing = new ArrayList<>();
    int found = 0;
    while (calls.find()) {
      found++;
      if (!page.contains("x." + calls.group(1) + "(")) {
        missing.add(calls.group(1));
      }
    }
    Check.due("calls of the face", found, 42);
    Check.holds("README.md shows each call, but for " + missing, missing.isEmpty());
  }

  private static void namesEachTest(String page) throws IOException {
    try (Stream<Path> files = Files.list(Path.of("src/test/java"))) {
      for (Path file : files.toList()) {
        String name = file.getFileName().toString().replace(".java", "");
        Check.holds("README.md names " + name, !name.endsWith("Tests") || page.contains("`" + name + "`"));
      }
    }
  }
}
