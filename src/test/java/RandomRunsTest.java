import java.lang.reflect.Method;
import java.util.Arrays;
import java.util.HashMap;
import java.util.Map;
import java.util.Random;
import java.util.TreeMap;

/** Runs of 512 calls, by fixed seeds, answered by DeafBell and by Twin. */
public final class RandomRunsTest {
  private static final int RUNS = 3000;
  private static final int CALLS = 512;
  private static final int[] EDGES = {Integer.MIN_VALUE, Integer.MAX_VALUE, -1, 0, 1, 41, 128, 256, 32768, 65536, -129};
  private static final String[] LIKELY = {"air", "person", "ofVoice", "carries", "says", "go", "become", "as", "shout", "shout",
    "shout", "ofShout", "lead", "taught", "forget", "TEXT", "TEXT", "BAD", "law", "law", "seconds", "seconds", "seconds", "loose",
    "loose", "then", "thenShout", "lesson", "poem", "heard", "often", "over", "seed", "voice", "trace", "sheet", "PUTS", "PUTS",
    "put", "move", "image", "restore", "tell", "TELLS", "check", "count", "told", "feed", "text", "VOICES", "BURST"};

  private final Random random;
  private final Map<String, Method> ours = new HashMap<>();
  private final Map<String, Method> twins = new HashMap<>();
  private final StringBuilder log = new StringBuilder();
  private DeafBell bell;
  private Twin twin;
  private int calls;
  private int last;
  private boolean wrong;
  private static final Map<String, Integer> seen = new TreeMap<>();

  private RandomRunsTest(long seed) {
    random = new Random(seed * 0x9E3779B97F4A7C15L);
    for (Method m : DeafBell.class.getDeclaredMethods()) if (java.lang.reflect.Modifier.isPublic(m.getModifiers())) ours.put(m.getName(), m);
    for (Method m : Twin.class.getDeclaredMethods()) if (ours.containsKey(m.getName())) twins.put(m.getName(), m);
  }

  private int any(int least, int most) { return least + random.nextInt(most - least + 1); }

  /** Mostly within the bounds, at times just outside, or far. */
  private int near(int least, int most) {
    int r = random.nextInt(60);
    if (r == 0) return EDGES[random.nextInt(EDGES.length)];
    if (r == 1) return least - 1;
    if (r == 2) return most + 1;
    return any(least, most);
  }

  private int number() {
    return random.nextInt(4) == 0 ? EDGES[random.nextInt(EDGES.length)] : random.nextInt(3) == 0 ? random.nextInt() : any(-50, 50);
  }

  private void call(String name, Object... args) {
    if (wrong || calls >= CALLS) return;
    calls++;
    log.append(name).append(Arrays.toString(args));
    try {
      int want = (int) twins.get(name).invoke(twin, args);
      int got = (int) ours.get(name).invoke(bell, args);
      last = got;
      log.append(" ").append(got).append('\n');
      String sort = name + (got < Twin.LOW && got >= Twin.LOW - 5 ? " " + (Twin.LOW - got) : "");
      seen.merge(sort, 1, Integer::sum);
      if (want != got) {
        wrong = true;
        log.append("due is ").append(want);
      }
    } catch (ReflectiveOperationException e) {
      wrong = true;
      log.append(" threw ").append(e.getCause());
    }
  }

  private void feedAll(String bytes) {
    if (twin.now.tape.length() > 0 && random.nextInt(8) > 0) call("text", random.nextInt(2));
    for (int i = 0; i < bytes.length(); ) {
      int n = Math.min(bytes.length() - i, any(1, 8));
      long word = random.nextLong();
      for (int k = n - 1; k >= 0; k--) word = word << 8 | bytes.charAt(i + k);
      call("feed", word, n);
      i += n;
    }
  }

  private String text(int use, int deep) {
    String names = Twin.NAMES[use];
    int r = random.nextInt(deep > 3 ? 2 : 9);
    if (r == 0) return "" + any(0, random.nextBoolean() ? 9 : 9999);
    if (r == 1) return "" + names.charAt(random.nextInt(names.length()));
    if (r == 2) return "!" + text(use, deep + 3);
    if (r == 3) return "(" + text(use, deep + 1) + ")";
    return text(use, deep + 1) + "|&<=>+-*/%+-*".charAt(random.nextInt(13)) + text(use, deep + 1);
  }

  private String bad(int use) {
    StringBuilder t = new StringBuilder(text(use, 0));
    for (int i = any(1, 3); i > 0; i--) {
      String alphabet = "wfikmc0123456789|&<=>+-*/%!!(()) \u00e9";
      char c = alphabet.charAt(random.nextInt(alphabet.length()));
      int at = random.nextInt(t.length() + 1);
      if (random.nextBoolean()) t.insert(at, c);
      else if (at < t.length()) t.deleteCharAt(at);
    }
    return random.nextInt(6) == 0 ? "!(!(((".repeat(2).substring(any(0, 5)) + t : t.toString();
  }

  private void step() {
    String name = LIKELY[random.nextInt(LIKELY.length)];
    int person = near(0, 5), word = near(0, 39), sheet = near(0, 3);
    if (random.nextInt(3) > 0 && twin.now.voices.size() > 0) person = any(0, twin.now.voices.size() - 1);
    switch (name) {
      case "air": call(name, near(0, 2), near(0, 9)); break;
      case "person": call(name, near(0, 69), near(0, 1)); break;
      case "VOICES": for (int i = any(1, 3); i > 0; i--) call("person", near(0, 69), near(0, 1)); break;
      case "ofVoice": call(name, person, near(0, 3)); break;
      case "carries": case "says": call(name, person, word); break;
      case "shout": call(name, person, random.nextInt(4) > 0 ? any(0, 19) * 2 : word); break;
      case "BURST": burst(); break;
      case "go": call(name, person, near(0, 1)); break;
      case "become": call(name, person, near(0, 69)); break;
      case "as": call(name, person, near(0, 6)); break;
      case "ofShout": call(name, near(0, Math.max(1, twin.now.shouts.size())), near(0, 5)); break;
      case "lead": call(name, near(0, Math.max(1, twin.now.shouts.size())), near(0, 1)); break;
      case "forget": if (random.nextInt(4) == 0) call(name); break;
      case "taught": case "check": case "image": call(name); break;
      case "restore": if (random.nextInt(3) == 0) call(name); break;
      case "TEXT": case "BAD": {
        int use = random.nextInt(2);
        String t = name.equals("TEXT") ? text(use, 0) : bad(use);
        if (t.length() <= 50 || random.nextInt(10) == 0) { feedAll(t); call("text", near(0, 1) < 0 ? -1 : use); }
        break;
      }
      case "feed": if (random.nextInt(4) == 0) call(name, random.nextLong(), near(1, 8)); break;
      case "text": if (random.nextInt(4) == 0) call(name, near(0, 1)); break;
      case "law": call(name, near(0, 1), number(), number(), number(), number()); break;
      case "seconds": case "loose": call(name, random.nextInt(5) > 0 ? any(1, 20) : near(1, 200)); break;
      case "then": call(name, near(0, 200), near(0, 2)); break;
      case "thenShout": call(name, near(0, 200), near(0, 39), near(0, 5)); break;
      case "lesson": call(name, sheet); break;
      case "poem": call(name, sheet, near(0, 1)); break;
      case "heard": call(name, sheet, near(0, 2)); break;
      case "often": call(name, person, word, random.nextBoolean() ? near(2, 99) : near(2, 99999)); break;
      case "over": call(name, near(0, 200)); break;
      case "seed": call(name, number()); break;
      case "voice": call(name, person, near(0, 3), number()); traceAll(); break;
      case "trace": call(name, near(0, 9)); break;
      case "sheet": call(name, sheet, new int[] {8, 16, 32, 8, 16, 32, 0, 7}[random.nextInt(8)], random.nextBoolean() ? any(0, 9) : near(0, 40)); break;
      case "PUTS": puts(any(0, 3)); break;
      case "put": call(name, sheet, near(0, 39), number()); break;
      case "move": call(name, sheet, near(0, 9), near(0, 3), near(0, 9), near(0, 9)); break;
      case "tell": call(name, near(0, 40)); break;
      case "TELLS": tells(); break;
      case "count": call(name, near(0, 9)); break;
      case "told": call(name, near(1, 5)); break;
      default: throw new IllegalStateException(name);
    }
  }

  /** So many questions at once that what is DUE, or the SHOUTS, may be full. */
  private void burst() {
    int voices = twin.now.voices.size();
    if (voices == 0) return;
    if (twin.now.shouts.size() > 26) call("forget");
    for (int i = any(6, 18); i > 0; i--) call("shout", any(0, voices - 1), any(0, 19) * 2);
    for (int i = any(1, 4); i > 0; i--) {
      call(random.nextInt(3) == 0 ? "loose" : "seconds", any(1, 9));
      call("count", 3);
      call("then", any(0, 30), any(0, 2));
    }
    call("over", any(0, 60));
  }

  private void traceAll() {
    for (int i = 0; i <= twin.trace.size(); i++) if (random.nextInt(4) == 0) call("trace", i);
  }

  private void puts(int sheet) {
    int n = twin.sheets[sheet] == null ? 1 : twin.sheets[sheet].of.length;
    int sort = random.nextInt(4);
    for (int i = 0; i < n && i < 26; i++) {
      int v = sort == 0 ? any(0, 6) : sort == 1 ? (i % 2 == 0 ? any(0, 1) : any(0, 60)) : sort == 2 ? any(-2, 24) : number();
      call("put", sheet, i, v);
    }
    call("lesson", sheet);
    call("poem", sheet, any(0, 1));
    call("heard", sheet, any(0, 2));
  }

  /** Tells what will be, at times with one number off. */
  private void tells() {
    int n = any(1, 22) - twin.now.waits.size();
    int off = any(0, 40);
    for (int i = 0; i < n; i++) {
      int at = twin.now.waits.size() + 1;
      call("tell", twin.now.ahead(at).shouts.size() + (i == off ? 1 : 0));
    }
    call("check");
  }

  private void tellAll() {
    for (int k = 1; k <= 5; k++) call("told", k);
    for (int k = 0; k <= 9; k++) call("count", k);
  }

  private boolean run() {
    bell = new DeafBell();
    twin = new Twin();
    calls = 0;
    // Some runs begin late, so that the last SECOND comes into sight.
    for (int i = random.nextInt(8) == 0 ? 49 : 0; i > 0; i--) call("seconds", 200);
    while (calls < CALLS - 15 && !wrong) step();
    tellAll();
    return !wrong;
  }

  /** Every call with far arguments: answers or errors, never a throw. */
  private boolean far() {
    bell = new DeafBell();
    twin = new Twin();
    calls = 0;
    String[] names = ours.keySet().stream().sorted().toArray(String[]::new);
    for (int i = 0; i < 60 && !wrong; i++) step();
    while (calls < CALLS && !wrong) {
      Method m = ours.get(names[random.nextInt(names.length)]);
      Object[] args = new Object[m.getParameterCount()];
      for (int i = 0; i < args.length; i++) {
        int v = random.nextBoolean() ? any(-2, 8) : EDGES[random.nextInt(EDGES.length)];
        args[i] = m.getParameterTypes()[i] == long.class ? (Object) random.nextLong() : (Object) v;
      }
      call(m.getName(), args);
    }
    return !wrong;
  }

  public static void main(String[] args) {
    int bad = 0;
    int runs = args.length > 0 ? Integer.parseInt(args[0]) : RUNS;
    long from = args.length > 1 ? Long.parseLong(args[1]) : 1;
    for (long seed = from; seed < from + runs && bad < 3; seed++) {
      RandomRunsTest test = new RandomRunsTest(seed);
      boolean fine = seed % 5 == 0 ? test.far() : test.run();
      if (!fine) {
        bad++;
        System.out.println("seed " + seed + ":\n" + test.log);
      }
    }
    if (args.length > 2) System.out.println(seen);
    System.out.println(bad == 0 ? "all runs are as the twin's" : bad + " runs are not as the twin's");
    if (bad != 0) System.exit(1);
  }
}
