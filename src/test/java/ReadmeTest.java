import java.lang.reflect.Method;
import java.lang.reflect.Modifier;
import java.net.URL;
import java.net.URLClassLoader;
import java.nio.file.Files;
import java.nio.file.Path;
import java.util.ArrayList;
import java.util.HashSet;
import java.util.List;
import java.util.Set;
import java.util.regex.Matcher;
import java.util.regex.Pattern;
import java.util.stream.Stream;
import javax.tools.JavaCompiler;
import javax.tools.ToolProvider;

/** The page that tells how the class is used: its lines of Java are run, and nothing that is here is left out there. */
public final class ReadmeTest {
  private static final Path PAGE = Path.of("README.md");
  private static final Path TESTS = Path.of("src/test/java");
  /** A call with the answer behind it. */
  private static final Pattern ANSWERED = Pattern.compile("^x\\.(\\w+)\\((.*)\\);\\s*// (-?\\d+)(: .*)?$");
  private static int wrong = 0;

  private ReadmeTest() {}

  private static void check(boolean fine, String what) {
    if (!fine) {
      wrong++;
      System.out.println(what);
    }
  }

  private static List<String> blocks(String page) {
    List<String> blocks = new ArrayList<>();
    Matcher m = Pattern.compile("(?s)```java\n(.*?)```").matcher(page);
    while (m.find()) {
      blocks.add(m.group(1));
    }
    return blocks;
  }

  /** The lines as they stand, but that each answer is compared with the one behind the call. */
  private static String source(List<String> blocks, Set<String> called) {
    StringBuilder text = new StringBuilder("public final class ReadmeLines {\n  public static String wrong = \"\";\n");
    text.append("  static void due(String call, long got, long want) {\n    if (got != want) wrong += call")
        .append(" + \" answered \" + got + \", the page says \" + want + \"\\n\";\n  }\n");
    for (int i = 0; i < blocks.size(); i++) {
      text.append("  public static void block").append(i).append("() {\n");
      for (String line : blocks.get(i).split("\n")) {
        Matcher m = ANSWERED.matcher(line);
        boolean answered = m.find();
        check(answered || !line.startsWith("x."), "a call without its answer: " + line);
        if (answered) {
          called.add(m.group(1));
          String call = "x." + m.group(1) + "(" + m.group(2) + ")";
          text.append("    due(\"").append(call).append("\", ").append(call).append(", ").append(m.group(3)).append("L);\n");
        } else {
          text.append("    ").append(line).append('\n');
        }
      }
      text.append("  }\n");
    }
    return text.append("}\n").toString();
  }

  private static void runLines(List<String> blocks, Set<String> called) throws Exception {
    JavaCompiler compiler = ToolProvider.getSystemJavaCompiler();
    Path folder = Files.createTempDirectory("readme");
    Path file = folder.resolve("ReadmeLines.java");
    Path compiled = folder.resolve("ReadmeLines.class");
    try {
      Files.writeString(file, source(blocks, called));
      String classes = System.getProperty("java.class.path");
      int exit = compiler.run(null, null, null, "-cp", classes, "-d", folder.toString(), file.toString());
      check(exit == 0, "the page's lines are not compiled");
      if (exit == 0) {
        check(answers(folder, blocks.size()).isEmpty(), "the page's answers are not all as due");
      }
    } finally {
      Files.deleteIfExists(compiled);
      Files.deleteIfExists(file);
      Files.deleteIfExists(folder);
    }
  }

  private static String answers(Path folder, int blocks) throws Exception {
    try (URLClassLoader loader = new URLClassLoader(new URL[] {folder.toUri().toURL()})) {
      Class<?> lines = loader.loadClass("ReadmeLines");
      for (int i = 0; i < blocks; i++) {
        lines.getMethod("block" + i).invoke(null);
      }
      String text = (String) lines.getField("wrong").get(null);
      System.out.print(text);
      return text;
    }
  }

  /** Each call of the face stands in a line, by itself or, as type does, in a loop. */
  private static void checkCalls(String page, Set<String> called) {
    for (Method m : PutBack.class.getDeclaredMethods()) {
      if (Modifier.isPublic(m.getModifiers())) {
        check(called.contains(m.getName()), "the page does not show " + m.getName());
      }
    }
    for (String constant : List.of("NONE", "BAD", "NO", "FULL")) {
      check(page.contains("`" + constant + "`"), "the page does not tell of " + constant);
    }
  }

  private static void checkFiles(String page) throws Exception {
    Set<String> files = new HashSet<>();
    try (Stream<Path> paths = Files.list(TESTS)) {
      paths.forEach(path -> files.add(path.getFileName().toString().replace(".java", "")));
    }
    for (String file : files) {
      check(page.contains("`" + file + "`"), "the page does not name " + file);
    }
    Matcher m = Pattern.compile("`(\\w+Test)`").matcher(page);
    while (m.find()) {
      check(files.contains(m.group(1)), "the page names a test that is none: " + m.group(1));
    }
    m = Pattern.compile("`((?:\\.\\./|src/)[\\w./]+)`").matcher(page);
    while (m.find()) {
      check(Files.exists(Path.of(m.group(1))), "the page names a file that is none: " + m.group(1));
    }
    check(page.contains("\n    .ci/run\n") && Files.isExecutable(Path.of(".ci/run")), "the page's .ci/run");
  }

  public static void main(String[] args) throws Exception {
    String page = Files.readString(PAGE);
    Set<String> called = new HashSet<>();
    List<String> blocks = blocks(page);
    check(!blocks.isEmpty(), "the page has no lines of Java");
    runLines(blocks, called);
    checkCalls(page, called);
    checkFiles(page);
    System.out.println(wrong == 0 ? "the page holds" : wrong + " words of the page do not hold");
    if (wrong != 0) {
      System.exit(1);
    }
  }
}
