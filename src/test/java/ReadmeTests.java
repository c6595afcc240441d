import java.lang.reflect.Method;
import java.lang.reflect.Modifier;
import java.nio.file.Files;
import java.nio.file.Path;
import java.util.List;
import java.util.Set;
import java.util.TreeSet;
import java.util.regex.Matcher;
import java.util.regex.Pattern;

/** The example of README.md, called line by line: it uses every call of the face, and answers what it says. */
public final class ReadmeTests {
  private static final Pattern MADE = Pattern.compile("AgeKeys keys = new AgeKeys\\((\\d+), (\\d+)\\);.*");
  private static final Pattern CALLED = Pattern.compile("keys\\.(\\w+)\\(([^)]*)\\); +// (true|false|-?\\d+)(:.*)?");
  private static int wrong = 0;

  private static void tell(String what) {
    wrong++;
    System.out.println(what);
  }

  private static Method called(String name) {
    for (Method m : AgeKeys.class.getDeclaredMethods()) {
      if (m.getName().equals(name) && Modifier.isPublic(m.getModifiers())) return m;
    }
    return null;
  }

  private static Object[] given(Method m, String list) {
    String[] texts = list.isEmpty() ? new String[0] : list.split(", ");
    Class<?>[] types = m.getParameterTypes();
    if (texts.length != types.length) return null;
    Object[] values = new Object[texts.length];
    for (int i = 0; i < texts.length; i++) {
      if (types[i] == long.class) values[i] = Long.valueOf(texts[i]);
      else values[i] = Integer.valueOf(texts[i]);
    }
    return values;
  }

  private static void call(AgeKeys keys, String line, Set<String> unused) throws Exception {
    Matcher parts = CALLED.matcher(line);
    if (!parts.matches()) {
      tell("README.md: no call with its answer: " + line);
      return;
    }
    Method m = called(parts.group(1));
    Object[] values = m == null ? null : given(m, parts.group(2));
    if (keys == null || values == null) {
      tell("README.md: there is no such call: " + line);
      return;
    }
    unused.remove(m.getName());
    String got = String.valueOf(m.invoke(keys, values));
    if (!got.equals(parts.group(3))) tell("README.md: " + line.trim() + " answered " + got);
  }

  private static List<String> example() throws Exception {
    List<String> lines = Files.readAllLines(Path.of("README.md"));
    int first = lines.indexOf("```java") + 1;
    int behind = first + lines.subList(first, lines.size()).indexOf("```");
    return first > 0 && behind > first ? lines.subList(first, behind) : List.of();
  }

  public static void main(String[] args) throws Exception {
    Set<String> unused = new TreeSet<>();
    for (Method m : AgeKeys.class.getDeclaredMethods()) {
      if (Modifier.isPublic(m.getModifiers())) unused.add(m.getName());
    }
    AgeKeys keys = null;
    for (String line : example()) {
      Matcher made = MADE.matcher(line);
      if (made.matches()) keys = new AgeKeys(Integer.parseInt(made.group(1)), Integer.parseInt(made.group(2)));
      else if (!line.isEmpty() && !line.startsWith("//")) call(keys, line, unused);
    }
    if (!unused.isEmpty()) tell("README.md: its example does not use " + unused);

    System.out.println(wrong == 0 ? "all answers are as due" : wrong + " are not as due");
    if (wrong != 0) System.exit(1);
  }
}
