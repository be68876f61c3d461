import java.io.IOException;
import java.lang.management.ManagementFactory;
import java.lang.reflect.Constructor;
import java.lang.reflect.Field;
import java.lang.reflect.Method;
import java.lang.reflect.Modifier;
import java.nio.file.Files;
import java.nio.file.Path;
import java.util.ArrayList;
import java.util.Arrays;
import java.util.List;
import java.util.Set;
import java.util.TreeSet;
import java.util.regex.Matcher;
import java.util.regex.Pattern;

/** The class's face, and those rules of LANGUAGE.md that can be looked up in its source and its classes. */
public final class LanguageTest {
  private static final Path DOCUMENT = Path.of("../shared/DOC.md");
  private static final Path SOURCE = Path.of("src/main/java/DeafBell.java");
  private static int wrong = 0;

  private static void wrong(String what) {
    wrong++;
    System.out.println(what);
  }

  /** The calls as the document's face has them: name(types). */
  private static Set<String> faceDue() throws IOException {
    Set<String> due = new TreeSet<>();
    Matcher calls = Pattern.compile("(?m)^    public int (\\w+)\\(([^)]*)\\);$").matcher(Files.readString(DOCUMENT));
    while (calls.find()) due.add(calls.group(1) + "(" + calls.group(2).replaceAll(" \\w+(, |$)", "$1").replace(", ", ",") + ")");
    if (due.size() != 37) wrong("the document's face has " + due.size() + " calls");
    return due;
  }

  private static void face() throws IOException {
    Set<String> due = faceDue();
    Set<String> has = new TreeSet<>();
    for (Method m : DeafBell.class.getDeclaredMethods()) {
      if (Modifier.isPrivate(m.getModifiers())) continue;
      List<String> types = new ArrayList<>();
      for (Class<?> type : m.getParameterTypes()) types.add(type.getName());
      has.add(m.getName() + "(" + String.join(",", types) + ")");
      if (m.getReturnType() != int.class || m.getModifiers() != Modifier.PUBLIC) wrong("rule 1: " + m);
    }
    if (!has.equals(due)) wrong("rule 1: the face is " + has);
    Constructor<?>[] made = DeafBell.class.getDeclaredConstructors();
    if (made.length != 1 || made[0].getParameterCount() != 0 || made[0].getModifiers() != Modifier.PUBLIC) wrong("rule 1: constructors");
    if (DeafBell.class.getModifiers() != (Modifier.PUBLIC | Modifier.FINAL)) wrong("rule 1: the class is public and final");
    for (Field f : DeafBell.class.getDeclaredFields()) if (!Modifier.isPrivate(f.getModifiers())) wrong("rule 1: " + f);
  }

  /** The calls stand in the document's order, and ahead of those that it tells stands what the interface says there. */
  private static void order() throws IOException {
    String source = Files.readString(SOURCE);
    List<String> due = new ArrayList<>();
    Matcher parts = Pattern.compile("(?m)^Ahead of the calls (.*) the interface says: (---- .*)\\.$").matcher(Files.readString(DOCUMENT));
    while (parts.find()) {
      due.add(parts.group(2));
      for (String call : parts.group(1).split(", ")) due.add(call.replace("`", ""));
    }
    if (due.size() != 37 + 6) wrong("the document's interface has " + due.size() + " lines");
    List<String> has = new ArrayList<>();
    Matcher lines = Pattern.compile("(?m)^    (?:// (---- .*)|public int (\\w+)\\(.*)$").matcher(source);
    while (lines.find()) has.add(lines.group(1) != null ? lines.group(1) : lines.group(2));
    // what stands behind the last call is not the interface's
    while (has.size() > due.size()) has.remove(has.size() - 1);
    if (!has.equals(due)) wrong("the interface is " + has);
  }

  private static void classes() throws IOException {
    List<Class<?>> all = new ArrayList<>(Arrays.asList(DeafBell.class.getDeclaredClasses()));
    all.add(DeafBell.class);
    if (all.size() > 12) wrong("rule 11: " + all.size() + " classes");
    Set<String> names = new TreeSet<>();
    for (String m : faceDue()) names.add(m.substring(0, m.indexOf('(')));
    for (Class<?> c : all) {
      if (c != DeafBell.class && (!Modifier.isStatic(c.getModifiers()) || Modifier.isPublic(c.getModifiers()))) wrong("rule 2: " + c);
      int fields = 0;
      for (Field f : c.getDeclaredFields()) {
        boolean isStatic = Modifier.isStatic(f.getModifiers());
        if (isStatic && !Modifier.isFinal(f.getModifiers())) wrong("rule 5: " + f);
        if (!isStatic) fields++;
      }
      if (fields > 20) wrong("rule 11: " + c + " has " + fields + " fields");
      for (Method m : c.getDeclaredMethods()) {
        if (m.getParameterCount() > 7) wrong("rule 11: " + m);
        if (m.isSynthetic()) wrong("rule 2: " + m);
        if (names.contains(m.getName()) && !(c == DeafBell.class && Modifier.isPublic(m.getModifiers()))) wrong("rule 1: " + m);
      }
    }
  }

  private static void source() throws IOException {
    String source = Files.readString(SOURCE);
    for (char c : source.toCharArray()) if (c > 126 || c < 32 && c != '\n') wrong("rule 4: sign " + (int) c);
    String code = source.replaceAll("(?s)/\\*.*?\\*/", "").replaceAll("//[^\n]*", "").replaceAll("'\\\\?.'", "0").replaceAll("\"[^\"]*\"", "0");
    String[] barred = {"\\bthrow\\b", "\\bthrows\\b", "\\btry\\b", "\\bcatch\\b", "\\bsynchronized\\b", "\\bassert\\b", "->", "::",
      "Exact\\b", "\\bpackage\\b", "\\bstatic\\s*\\{", "\\bequals\\b", "\\bhashCode\\b", "\\btoString\\b", "\\bvar\\b", "\\bObject\\b",
      "\\bdouble\\b", "\\bfloat\\b", "\\bvolatile\\b", "\\btransient\\b", "\\bnative\\b", "\\bwhile\\s*\\(\\s*true", "for\\s*\\([^;]*;\\s*;"};
    for (String b : barred) if (Pattern.compile(b).matcher(code).find()) wrong("LANGUAGE.md bars " + b);
    Matcher dots = Pattern.compile("\\b(import [^;]*|(?:Math|System|Arrays|Integer|Long|List)\\.\\w+)").matcher(code);
    Set<String> used = new TreeSet<>();
    while (dots.find()) used.add(dots.group(1));
    used.removeAll(Set.of("import java.util.Arrays", "Math.max", "Math.min", "Math.abs", "System.arraycopy", "Arrays.copyOf", "Arrays.fill"));
    if (!used.isEmpty()) wrong("rule 4: " + used);
    Matcher methods = Pattern.compile("(?ms)^( {4}| {8})\\w[^;=\\n]*\\([^;]*?\\) \\{\\n.*?^\\1\\}").matcher(code);
    int many = 0;
    while (methods.find()) {
      many++;
      long lines = methods.group().lines().count();
      if (lines > 60) wrong("rule 11: " + lines + " lines: " + methods.group().lines().findFirst().get());
    }
    if (many < 80) wrong("only " + many + " methods were found in the source");
  }

  /** 512 of the dearest calls in a room: but for text(), none makes an object. */
  private static void room() {
    com.sun.management.ThreadMXBean room = (com.sun.management.ThreadMXBean) ManagementFactory.getThreadMXBean();
    long thread = Thread.currentThread().getId();
    long made = 0;
    for (int turn = 0; turn < 3; turn++) {
      DeafBell x = new DeafBell();
      for (int i = 0; i < 6; i++) x.person(i * 11, i % 2);
      x.feed('w', 1);
      x.text(0);
      x.sheet(0, 16, 40);
      long before = room.getThreadAllocatedBytes(thread);
      for (int i = 0; i < 40; i++) {
        x.shout(i % 6, i);
        x.over(200);
        x.then(200, i % 3);
        x.thenShout(200, i, 3);
        x.law(0, i, i, i, i);
        x.lesson(0);
        x.poem(0, 1);
        x.heard(0, 2);
        x.voice(i % 6, 3, i);
        x.image();
        x.restore();
        x.tell(i);
        x.check();
      }
      made = room.getThreadAllocatedBytes(thread) - before;
    }
    if (made > 2000) wrong("rule 12: calls made " + made + " bytes of objects");
  }

  public static void main(String[] args) throws IOException {
    face();
    order();
    classes();
    source();
    room();
    System.out.println(wrong == 0 ? "the rules are kept" : wrong + " rules are broken");
    if (wrong != 0) System.exit(1);
  }
}
