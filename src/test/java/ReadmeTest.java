import java.io.IOException;
import java.lang.reflect.Method;
import java.lang.reflect.Modifier;
import java.nio.file.Files;
import java.nio.file.Path;
import java.util.ArrayList;
import java.util.List;
import java.util.Set;
import java.util.TreeSet;
import java.util.regex.Matcher;
import java.util.regex.Pattern;
import java.util.stream.Collectors;
import java.util.stream.Stream;

/** README.md is true of the class and its tests as they stand: its examples, and the names in it. */
public final class ReadmeTest {
  private static final Path PAGE = Path.of("README.md");
  private static final Path TESTS = Path.of("src/test/java");
  private static final String MADE = "DeafBell bell = new DeafBell();";
  private static final Pattern CALL = Pattern.compile("bell\\.(\\w+)\\(([^)]*)\\); +// (-?\\d+): .*");
  private static int wrong = 0;

  private static void wrong(String what) {
    wrong++;
    System.out.println("README.md: " + what);
  }

  /** The lines between ```java and ```. */
  private static List<String> examples() throws IOException {
    List<String> lines = new ArrayList<>();
    boolean isExample = false;
    for (String line : Files.readAllLines(PAGE)) {
      if (line.startsWith("```")) isExample = line.equals("```java");
      else if (isExample) lines.add(line);
    }
    return lines;
  }

  private static int answer(DeafBell bell, String name, String[] given) throws ReflectiveOperationException {
    for (Method m : DeafBell.class.getMethods()) {
      if (!m.getName().equals(name) || m.getParameterCount() != given.length) continue;
      Object[] arguments = new Object[given.length];
      for (int i = 0; i < given.length; i++) {
        long v = Long.decode(given[i].replace("L", ""));
        if (m.getParameterTypes()[i] == long.class) arguments[i] = v;
        else arguments[i] = Math.toIntExact(v);
      }
      return (int) m.invoke(bell, arguments);
    }
    throw new NoSuchMethodException(name);
  }

  /** The examples are one run of calls, each with its answer behind it. */
  private static int run(List<String> lines) throws ReflectiveOperationException {
    DeafBell bell = null;
    int asked = 0;
    for (String line : lines) {
      Matcher call = CALL.matcher(line);
      if (line.equals(MADE)) {
        bell = new DeafBell();
      } else if (bell == null || !call.matches()) {
        wrong("an example that can't be run: " + line);
      } else {
        String[] given = call.group(2).isEmpty() ? new String[0] : call.group(2).split(", ");
        int got = answer(bell, call.group(1), given);
        asked++;
        if (got != Integer.parseInt(call.group(3))) wrong("answered " + got + ": " + line);
      }
    }
    if (asked == 0) wrong("it has no examples");
    return asked;
  }

  /** What stands between single backticks, outside the examples. */
  private static Set<String> named() throws IOException {
    String page = Files.readString(PAGE).replaceAll("(?s)```.*?```", "");
    return Pattern.compile("`([^`]+)`").matcher(page).results().map(r -> r.group(1)).collect(Collectors.toCollection(TreeSet::new));
  }

  /** Each name that there is, is named; and no name of that form is named that there isn't. */
  private static void same(String form, Set<String> there, Set<String> named) {
    for (String name : there) if (!named.contains(name)) wrong("it doesn't name " + name);
    for (String name : named) if (name.matches(form) && !there.contains(name)) wrong("there is no " + name);
  }

  private static void names() throws IOException {
    Set<String> named = named();
    Set<String> calls = new TreeSet<>();
    for (Method m : DeafBell.class.getDeclaredMethods()) if (Modifier.isPublic(m.getModifiers())) calls.add(m.getName());
    named.removeAll(Set.of("javac", "java"));
    same("[a-z]\\w*", calls, named);
    Set<String> classes = new TreeSet<>();
    for (Class<?> c : DeafBell.class.getDeclaredClasses()) classes.add(c.getSimpleName());
    try (Stream<Path> files = Files.list(TESTS)) {
      files.map(f -> f.getFileName().toString().replace(".java", "")).forEach(classes::add);
    }
    same("[A-Z]\\w*", classes, named);
    for (String name : named) {
      if (name.matches("(\\.\\./|src/)\\S*") && !Files.exists(Path.of(name))) wrong("there is no " + name);
    }
    if (!Files.readString(PAGE).contains("    .ci/run\n") || !Files.isExecutable(Path.of(".ci/run"))) wrong("how the tests are run");
  }

  public static void main(String[] args) throws IOException, ReflectiveOperationException {
    int asked = run(examples());
    names();
    System.out.println(wrong == 0 ? "README.md is true, with " + asked + " answers" : wrong + " faults in README.md");
    if (wrong != 0) System.exit(1);
  }
}
