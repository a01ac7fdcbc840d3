import java.io.IOException;
import java.lang.reflect.InvocationTargetException;
import java.lang.reflect.Method;
import java.lang.reflect.Modifier;
import java.nio.file.Files;
import java.nio.file.Path;
import java.util.List;
import java.util.regex.Matcher;
import java.util.regex.Pattern;
import java.util.stream.Stream;

/** README.md: its example's calls answer what it says, and its tables leave out no call and no test. */
public final class ReadmeTest {
  private static final Path README = Path.of("README.md");
  private static final Path TESTS = Path.of("src/test/java");
  private static final String EXAMPLE_STARTS = "BoundObjects x = new BoundObjects();";
  private static final String EXAMPLE_ENDS = "```";
  private static final Pattern CALL = Pattern.compile("x\\.(\\w+)\\((.*)\\); +// (.*)");
  private static final Pattern ANSWER = Pattern.compile("(-?\\d+|true|false|throws \\w+): .*");
  private static final String NO_ANSWER = "null";

  private final Checks c = new Checks();
  private final BoundObjects x = new BoundObjects();

  public static void main(String[] args) throws IOException, IllegalAccessException {
    List<String> lines = Files.readAllLines(README);
    ReadmeTest test = new ReadmeTest();
    test.exampleAnswersAsTold(lines);
    test.everyCallIsInATable(lines);
    test.everyTestIsInATable(lines);
    test.c.end();
  }

  private void exampleAnswersAsTold(List<String> lines) throws IllegalAccessException {
    int first = lines.indexOf(EXAMPLE_STARTS) + 1;
    c.due("README.md has the example", first > 0, true);
    for (int k = first; !lines.get(k).equals(EXAMPLE_ENDS); k++) {
      Matcher call = CALL.matcher(lines.get(k));
      if (call.matches()) {
        c.due(lines.get(k), answerOf(call.group(1), call.group(2)), told(call.group(3)));
      } else {
        c.wrong(lines.get(k), "no call", "a call and what it answers");
      }
    }
  }

  /** A comment that begins with no answer tells of a call that answers nothing. */
  private static String told(String comment) {
    Matcher answer = ANSWER.matcher(comment);
    return answer.matches() ? answer.group(1) : NO_ANSWER;
  }

  private String answerOf(String name, String arguments) throws IllegalAccessException {
    Stream<String> written = Stream.of(arguments.split(", ")).filter(argument -> !argument.isEmpty());
    try {
      return String.valueOf(called(name).invoke(x, written.map(ReadmeTest::valueOf).toArray()));
    } catch (InvocationTargetException e) {
      return "throws " + e.getCause().getClass().getSimpleName();
    }
  }

  private static Method called(String name) {
    for (Method method : BoundObjects.class.getMethods()) {
      if (method.getName().equals(name)) {
        return method;
      }
    }
    throw new AssertionError("README.md calls " + name + ", which is not in the face");
  }

  private static Object valueOf(String argument) {
    if (argument.equals("true") || argument.equals("false")) {
      return Boolean.valueOf(argument);
    }
    return argument.startsWith("'") ? Integer.valueOf(argument.charAt(1)) : Integer.valueOf(argument);
  }

  private void everyCallIsInATable(List<String> lines) {
    for (Method method : BoundObjects.class.getDeclaredMethods()) {
      if (Modifier.isPublic(method.getModifiers())) {
        dueInATable(lines, "| `" + method.getName() + "(");
      }
    }
  }

  private void everyTestIsInATable(List<String> lines) throws IOException {
    try (Stream<Path> files = Files.list(TESTS)) {
      files.map(file -> file.getFileName().toString())
          .filter(file -> file.endsWith("Test.java"))
          .forEach(file -> dueInATable(lines, "| `" + file.replace(".java", "") + "` |"));
    }
  }

  private void dueInATable(List<String> lines, String start) {
    c.due("rows of README.md that begin " + start, (int) lines.stream().filter(l -> l.startsWith(start)).count(), 1);
  }
}
