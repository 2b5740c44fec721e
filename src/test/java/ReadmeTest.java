import java.io.IOException;
import java.lang.reflect.Method;
import java.lang.reflect.Modifier;
import java.nio.file.Files;
import java.nio.file.Path;
import java.util.Arrays;
import java.util.HashSet;
import java.util.Set;
import java.util.regex.Matcher;
import java.util.regex.Pattern;
import java.util.stream.Stream;

/** README.md tells the class and its tests as they stand: read from the project's root. */
public final class ReadmeTest {
  private static final Pattern CALL = Pattern.compile("x\\.(\\w+)\\((.*?)\\); *// (-?\\d+)\\b.*");

  private static final Check CHECK = new Check();

  private static int answer(JumpDiscs x, String name, String told) throws ReflectiveOperationException {
    Object[] values = Stream.of(told.split(", ")).filter(s -> !s.isEmpty()).map(Integer::valueOf).toArray();
    Class<?>[] types = new Class<?>[values.length];
    Arrays.fill(types, int.class);
    return (int) JumpDiscs.class.getMethod(name, types).invoke(x, values);
  }

  /** Each line of the example that calls, in their order on one object; which calls there were. */
  private static Set<String> lookAtExample(String page) throws ReflectiveOperationException {
    Set<String> called = new HashSet<>();
    JumpDiscs x = new JumpDiscs();
    for (String line : page.split("\n")) {
      if (!line.startsWith("x.")) continue;
      Matcher call = CALL.matcher(line);
      CHECK.holds("a call with its answer: " + line, call.matches());
      if (!call.matches()) continue;
      CHECK.due(line, answer(x, call.group(1), call.group(2)), Integer.parseInt(call.group(3)));
      called.add(call.group(1));
    }
    return called;
  }

  private static void lookForTests(String page) throws IOException {
    try (Stream<Path> files = Files.list(Path.of("src/test/java"))) {
      for (String name : files.map(f -> f.getFileName().toString().replace(".java", "")).toList()) {
        CHECK.holds("README.md names " + name, page.contains("`" + name + "`"));
      }
    }
  }

  public static void main(String[] args) throws IOException, ReflectiveOperationException {
    String page = Files.readString(Path.of("README.md"));
    Set<String> called = lookAtExample(page);
    for (Method m : JumpDiscs.class.getDeclaredMethods()) {
      if (Modifier.isPublic(m.getModifiers())) CHECK.holds("README.md shows " + m.getName(), called.contains(m.getName()));
    }
    lookForTests(page);
    CHECK.finish();
  }
}
