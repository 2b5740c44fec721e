import java.io.IOException;
import java.lang.reflect.Field;
import java.lang.reflect.Method;
import java.lang.reflect.Modifier;
import java.nio.file.Files;
import java.nio.file.Path;
import java.util.ArrayList;
import java.util.List;
import java.util.Set;
import java.util.regex.Matcher;
import java.util.regex.Pattern;

/** What can be counted of the rules in ../shared/LANGUAGE.md: read from the project's root. */
public final class LanguageTest {
  private static final Path SOURCE = Path.of("src/main/java/JumpDiscs.java");
  private static final int LINES_MOST = 60, CLASSES_MOST = 12, FIELDS_MOST = 20, PARAMETERS_MOST = 7;

  /** Refused by rules 2, 6 and 13, or not used here: a call makes no text, no list and throws nothing. */
  private static final String[] REFUSED = {"import", "package", "protected", "try", "catch", "finally", "throw", "throws",
      "synchronized", "assert", "native", "volatile", "transient", "strictfp", "var", "while", "do", "String",
      "StringBuilder", "double", "float", "Object", "Random", "Thread", "Runtime", "getClass", "equals", "hashCode",
      "toString", "sealed", "yield"};

  private static final Set<String> LIBRARY = Set.of("Math.abs", "Math.max", "Math.min", "Integer.bitCount",
      "System.arraycopy");

  private static final Check CHECK = new Check();

  private static String withoutComments(String source) {
    return source.replaceAll("(?s)/\\*.*?\\*/", "").replaceAll("//[^\n]*", "");
  }

  private static void lookAtWords(String code) {
    for (String word : REFUSED) {
      CHECK.holds("rules 2, 6, 13: no " + word, !Pattern.compile("\\b" + word + "\\b").matcher(code).find());
    }
    CHECK.holds("rule 2: no lambda, no method reference", !code.contains("->") && !code.contains("::"));
    CHECK.holds("rule 3: signs 1 to 127", code.chars().allMatch(c -> c > 0 && c < 128));
    Matcher call = Pattern.compile("\\b(Math|Integer|Long|System|Arrays|Character|List)\\.\\w+").matcher(code);
    while (call.find()) CHECK.holds("rule 4: " + call.group(), LIBRARY.contains(call.group()));
  }

  /** Rule 9: each loop counts up to a bound that stands in its own line, and nothing else is stepped there. */
  private static void lookAtLoops(String code) {
    Matcher loop = Pattern.compile("\\bfor \\(.*").matcher(code);
    Pattern counted = Pattern.compile("for \\(int (\\w+) = [^;]+; \\1 <=? [^;]+; \\1\\+\\+\\) \\{");
    while (loop.find()) CHECK.holds("rule 9: " + loop.group(), counted.matcher(loop.group()).matches());
  }

  /** Rule 12: what is made is made with its object; a call makes nothing. */
  private static void lookAtMaking(String code) {
    for (String line : code.split("\n")) {
      if (!Pattern.compile("\\bnew\\b").matcher(line).find()) continue;
      CHECK.holds("rule 12: " + line.trim(), line.trim().matches("private final [\\w\\[\\]]+ \\w+ = new .*")
          || line.trim().equals("kept[i] = new Game();"));
    }
  }

  /** A method's first line ends with a brace and its last is a brace alone, as far in as the first. */
  private static void lookAtLengths(String source) {
    String[] lines = source.split("\n");
    for (int i = 0; i < lines.length; i++) {
      if (!lines[i].matches(" +[\\w\\[\\]. ]+\\(.*\\) \\{") || lines[i].matches(" +(for|if|switch|else|return) .*")) continue;
      String end = lines[i].replaceAll("\\S.*", "") + "}";
      int last = i;
      while (last < lines.length && !lines[last].equals(end)) last++;
      CHECK.holds("rule 11: lines of" + lines[i], last < lines.length && last - i + 1 <= LINES_MOST);
    }
  }

  private static List<Class<?>> allClasses() {
    List<Class<?>> all = new ArrayList<>(List.of(JumpDiscs.class));
    for (int i = 0; i < all.size(); i++) all.addAll(List.of(all.get(i).getDeclaredClasses()));
    return all;
  }

  private static void lookAtClasses() {
    List<Class<?>> all = allClasses();
    CHECK.holds("rule 11: classes", all.size() <= CLASSES_MOST);
    for (Class<?> c : all) {
      int fields = 0;
      for (Field f : c.getDeclaredFields()) {
        if (!Modifier.isStatic(f.getModifiers())) fields++;
        else CHECK.holds("rule 5: " + f, Modifier.isFinal(f.getModifiers())
            && Set.of(int.class, long.class, int[].class).contains(f.getType()));
      }
      CHECK.holds("rule 11: fields of " + c, fields <= FIELDS_MOST);
      for (Method m : c.getDeclaredMethods()) CHECK.holds("rule 11: " + m, m.getParameterCount() <= PARAMETERS_MOST);
    }
  }

  public static void main(String[] args) throws IOException {
    String code = withoutComments(Files.readString(SOURCE));
    lookAtWords(code);
    lookAtLoops(code);
    lookAtMaking(code);
    lookAtLengths(code);
    lookAtClasses();
    CHECK.finish();
  }
}
