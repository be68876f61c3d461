import java.math.BigInteger;
import java.nio.ByteBuffer;
import java.nio.ByteOrder;
import java.util.ArrayDeque;
import java.util.ArrayList;
import java.util.HashSet;
import java.util.List;
import java.util.Set;

/** The document told a second time, by other means, to hold DeafBell's answers against. */
final class Twin {
  static final int LOW = -1000000000;
  static final int BEYOND = LOW - 1, NONE = LOW - 2, STATE = LOW - 3, FULL = LOW - 4, KIND = LOW - 5;
  static final String[] NAMES = {"wfik", "wmc"};

  static final class Voice {
    int kind, m, cliff;
    Voice(int km, int cliff) { kind = km / 10; m = km % 10; this.cliff = cliff; }
    Voice(Voice v) { kind = v.kind; m = v.m; cliff = v.cliff; }
  }

  record Shout(int second, int by, int cliff, int word, int to, int over) {
    int of(int what) { return new int[] {second, by, cliff, word, to, over}[what]; }
  }

  record Due(int by, int word, int to, int second) { }

  static final class World {
    int delay = 7, fog, wind, second, z = 1;
    List<Voice> voices = new ArrayList<>();
    List<Shout> shouts = new ArrayList<>();
    List<Due> due = new ArrayList<>();
    String[] texts = new String[2];
    StringBuilder tape = new StringBuilder();
    List<Integer> waits = new ArrayList<>();

    World copy() {
      World w = new World();
      w.delay = delay; w.fog = fog; w.wind = wind; w.second = second; w.z = z;
      for (Voice v : voices) w.voices.add(new Voice(v));
      w.shouts.addAll(shouts);
      w.due.addAll(due);
      w.texts = texts.clone();
      w.tape.append(tape);
      w.waits.addAll(waits);
      return w;
    }

    int gap() { return delay + fog; }

    int thinks(int p) {
      Voice v = voices.get(p);
      switch (v.kind) {
        case 0: return 3;
        case 1: return v.m > 3 ? 0 : 3 - v.m;
        case 2: return 3 + v.m;
        case 3: return 1;
        case 4: return (v.m > 3 ? 0 : 3 - v.m) + (fog > 0 ? 1 : 0);
        case 5: return 3 + v.m + wind;
        default: return 2 + v.m;
      }
    }

    int carries(int p, int word) {
      Voice v = voices.get(p);
      int pupil = word % 2 == 1 ? 9 - wind : 9;
      int own = new int[] {pupil, pupil, pupil, 10, pupil - v.m / 3, pupil / 2, 10 - wind}[v.kind];
      int all = own + law(0, word, fog, wind, v.kind);
      return all < 0 ? 0 : all > 10 ? 10 : all;
    }

    int says(int p, int word) {
      Voice v = voices.get(p);
      if (v.kind == 6) return word;
      int pupil = law(1, word, v.m, v.cliff, 0);
      return v.kind == 4 ? (pupil + v.m) % 40 : pupil;
    }

    int law(int use, int a, int b, int c, int d) {
      String text = texts[use] != null ? texts[use] : use == 0 ? "0" : "w+1";
      int v = value(text, NAMES[use], new int[] {a, b, c, d});
      if (use == 0) return v < -10 ? -10 : v > 10 ? 10 : v;
      return v < 0 ? 0 : v % 40;
    }

    void second(boolean loosely) {
      for (int s = 0; s < shouts.size(); s++) {
        Shout it = shouts.get(s);
        if (it.over() != second) continue;
        int tenths = carries(it.by(), it.word());
        boolean heard = tenths >= 5;
        if (loosely) {
          z = z * 1103515245 + 12345;
          heard = (z >>> 8) % 10 < tenths;
        }
        if (!heard || it.word() % 2 == 1) continue;
        int who = -1;
        for (int p = voices.size() - 1; p >= 0; p--) {
          if (voices.get(p).cliff != it.cliff() && (who < 0 || thinks(p) <= thinks(who))) who = p;
        }
        if (who >= 0 && due.size() < 12) due.add(new Due(who, says(who, it.word()), s, second + thinks(who)));
      }
      List<Due> later = new ArrayList<>();
      for (Due it : due) {
        if (it.second() > second) later.add(it);
        else if (shouts.size() < 40) call(it.by(), it.word(), it.to());
      }
      due = later;
      second++;
    }

    void call(int by, int word, int to) {
      shouts.add(new Shout(second, by, voices.get(by).cliff, word, to, second + gap()));
    }

    World ahead(int n) {
      World w = copy();
      for (int i = 0; i < n; i++) w.second(false);
      return w;
    }

    int taught() {
      Set<Integer> questions = new HashSet<>();
      for (Shout a : shouts) {
        if (a.to() < 0 || a.over() >= second) continue;
        int asked = shouts.get(a.to()).word();
        if (asked % 2 == 0 && a.word() == asked + 1) questions.add(a.to());
      }
      return questions.size();
    }
  }

  static final class Sheet {
    final int bits;
    final int[] of;
    Sheet(int bits, int n) { this.bits = bits; of = new int[n]; }
  }

  World now = new World();
  World kept;
  int images;
  Sheet[] sheets = new Sheet[4];
  List<Integer> trace = new ArrayList<>();
  int[] errors = new int[6];

  private int err(int e) { errors[LOW - e]++; return e; }
  private static boolean in(int v, int least, int most) { return least <= v && v <= most; }
  private boolean isVoice(int p) { return in(p, 0, now.voices.size() - 1); }

  // ---- texts, by bytes and by parts

  /** -1: none. Goes byte by byte with the brackets that are open, without a tree. */
  static int fault(String t, String names) {
    ArrayDeque<int[]> open = new ArrayDeque<>();
    int signs = 0, pending = 0, digits = 0;
    boolean operand = true, compared = false;
    for (int i = 0; i < t.length(); i++) {
      char c = t.charAt(i);
      boolean isDigit = c >= '0' && c <= '9';
      if (operand) {
        if (c == '!' || c == '(') {
          if (signs == 5) return i;
          signs++;
          if (c == '!') { pending++; continue; }
          open.push(new int[] {pending, compared ? 1 : 0});
          pending = 0;
          compared = false;
        } else if (isDigit || names.indexOf(c) >= 0) {
          signs -= pending;
          pending = 0;
          digits = isDigit ? 1 : 9;
          operand = false;
        } else return i;
      } else if (isDigit && digits < 4) {
        digits++;
      } else if (c == ')' && !open.isEmpty()) {
        int[] was = open.pop();
        signs -= 1 + was[0];
        compared = was[1] == 1;
        digits = 9;
      } else if ("<=>".indexOf(c) >= 0 && !compared) {
        compared = true;
        operand = true;
      } else if ("|&".indexOf(c) >= 0) {
        compared = false;
        operand = true;
      } else if ("+-*/%".indexOf(c) >= 0) {
        operand = true;
      } else return i;
    }
    return operand || !open.isEmpty() ? t.length() : -1;
  }

  /** Splits at the last sign of the loosest rank outside brackets. */
  static int value(String t, String names, int[] of) {
    for (String rank : new String[] {"|", "&", "<=>", "+-", "*/%"}) {
      int deep = 0;
      for (int i = t.length() - 1; i >= 0; i--) {
        char c = t.charAt(i);
        if (c == ')') deep++;
        if (c == '(') deep--;
        if (deep == 0 && rank.indexOf(c) >= 0) {
          return join(c, value(t.substring(0, i), names, of), value(t.substring(i + 1), names, of));
        }
      }
    }
    char c = t.charAt(0);
    if (c == '!') return value(t.substring(1), names, of) == 0 ? 1 : 0;
    if (c == '(') return value(t.substring(1, t.length() - 1), names, of);
    return names.indexOf(c) >= 0 ? of[names.indexOf(c)] : Integer.parseInt(t);
  }

  private static int join(char c, int l, int r) {
    switch (c) {
      case '|': return (l == 0 ? 0 : 1) | (r == 0 ? 0 : 1);
      case '&': return (l == 0 ? 0 : 1) & (r == 0 ? 0 : 1);
      case '<': return l < r ? 1 : 0;
      case '=': return l == r ? 1 : 0;
      case '>': return l > r ? 1 : 0;
      case '+': return l + r;
      case '-': return l - r;
      case '*': return l * r;
      case '/': return r == 0 ? 0 : (int) ((long) l / r);
      default: return r == 0 ? 0 : (int) ((long) l % r);
    }
  }

  // ---- the calls

  int air(int what, int v) {
    int was;
    if (what == 0 && in(v, 1, 20)) { was = now.delay; now.delay = v; }
    else if (what == 1 && in(v, 0, 9)) { was = now.fog; now.fog = v; }
    else if (what == 2 && in(v, 0, 9)) { was = now.wind; now.wind = v; }
    else was = err(BEYOND);
    return was;
  }

  int person(int km, int cliff) {
    if (!in(km, 0, 69) || !in(cliff, 0, 1)) return err(BEYOND);
    if (now.voices.size() == 6) return err(FULL);
    now.voices.add(new Voice(km, cliff));
    return now.voices.size() - 1;
  }

  int ofVoice(int p, int what) {
    if (!isVoice(p) || !in(what, 0, 3)) return err(BEYOND);
    Voice v = now.voices.get(p);
    return new int[] {v.kind, v.m, v.cliff, now.thinks(p)}[what];
  }

  int carries(int p, int word) { return !isVoice(p) || !in(word, 0, 39) ? err(BEYOND) : now.carries(p, word); }
  int says(int p, int word) { return !isVoice(p) || !in(word, 0, 39) ? err(BEYOND) : now.says(p, word); }

  int go(int p, int cliff) {
    if (!isVoice(p) || !in(cliff, 0, 1)) return err(BEYOND);
    int was = now.voices.get(p).cliff;
    now.voices.get(p).cliff = cliff;
    return was;
  }

  int become(int p, int km) {
    if (!isVoice(p) || !in(km, 0, 69)) return err(BEYOND);
    Voice was = now.voices.get(p);
    now.voices.set(p, new Voice(km, was.cliff));
    return was.kind;
  }

  int as(int p, int kind) {
    if (!isVoice(p) || !in(kind, 0, 6)) return err(BEYOND);
    Voice v = now.voices.get(p);
    boolean is = kind == 0 || kind == v.kind || in(kind, 1, 3) && v.kind == kind + 3;
    return is ? v.m : err(KIND);
  }

  int shout(int p, int word) {
    if (!isVoice(p) || !in(word, 0, 39)) return err(BEYOND);
    if (now.shouts.size() == 40) return err(FULL);
    now.call(p, word, -1);
    return now.shouts.size() - 1;
  }

  int ofShout(int s, int what) {
    return in(s, 0, now.shouts.size() - 1) && in(what, 0, 5) ? now.shouts.get(s).of(what) : err(BEYOND);
  }

  int lead(int s, int what) {
    if (!in(s, 0, now.shouts.size() - 1) || !in(what, 0, 1)) return err(BEYOND);
    int to = now.shouts.get(s).to();
    if (to < 0) return what == 0 ? s : 1;
    return what == 0 ? lead(to, 0) : 1 + lead(to, 1);
  }

  int taught() { return now.taught(); }

  int forget() {
    int were = now.shouts.size();
    now.shouts.clear();
    now.due.clear();
    return were;
  }

  int feed(long word, int n) {
    if (!in(n, 1, 8)) return err(BEYOND);
    if (now.tape.length() + n > 50) return err(FULL);
    ByteBuffer bytes = ByteBuffer.allocate(8).order(ByteOrder.LITTLE_ENDIAN).putLong(0, word);
    for (int i = 0; i < n; i++) now.tape.append((char) Byte.toUnsignedInt(bytes.get(i)));
    return now.tape.length();
  }

  int text(int use) {
    if (!in(use, 0, 1)) return err(BEYOND);
    String t = now.tape.toString();
    now.tape.setLength(0);
    int fault = fault(t, NAMES[use]);
    if (fault >= 0) return -10 - fault;
    now.texts[use] = t;
    return 1;
  }

  int law(int use, int a, int b, int c, int d) { return in(use, 0, 1) ? now.law(use, a, b, c, d) : err(BEYOND); }

  int seconds(int n) { return pass(n, false); }
  int loose(int n) { return pass(n, true); }
  private int pass(int n, boolean loosely) {
    if (!in(n, 1, 200)) return err(BEYOND);
    if (now.second > 9999 - n) return err(STATE);
    for (int i = 0; i < n; i++) now.second(loosely);
    return now.shouts.size();
  }

  int then(int n, int what) {
    if (!in(n, 0, 200) || !in(what, 0, 2)) return err(BEYOND);
    World w = now.ahead(n);
    return new int[] {w.shouts.size(), w.due.size(), w.taught()}[what];
  }

  int thenShout(int n, int s, int what) {
    if (!in(n, 0, 200) || !in(s, 0, 39) || !in(what, 0, 5)) return err(BEYOND);
    World w = now.ahead(n);
    return s < w.shouts.size() ? w.shouts.get(s).of(what) : err(NONE);
  }

  int lesson(int s) {
    if (!in(s, 0, 3)) return err(BEYOND);
    if (sheets[s] == null) return err(NONE);
    List<Integer> thinks = new ArrayList<>();
    for (int v : sheets[s].of) if (in(v, 0, 20) && thinks.size() < 5) thinks.add(v);
    if (thinks.isEmpty()) return -1;
    for (int last = 0; ; last++) if (placed(thinks, 0, last, new boolean[last + 1])) return last;
  }

  private boolean placed(List<Integer> thinks, int i, int last, boolean[] taken) {
    if (i == thinks.size()) return true;
    for (int rest : thinks.subList(i, thinks.size())) if (rest + 2 * now.gap() > last) return false;
    int needs = thinks.get(i) + 2 * now.gap();
    for (int q = 0; q + needs <= last; q++) {
      if (taken[q] || taken[q + needs]) continue;
      taken[q] = taken[q + needs] = true;
      if (placed(thinks, i + 1, last, taken)) return true;
      taken[q] = taken[q + needs] = false;
    }
    return false;
  }

  int poem(int s, int what) {
    if (!in(s, 0, 3) || !in(what, 0, 1)) return err(BEYOND);
    if (sheets[s] == null) return err(NONE);
    List<int[]> lines = new ArrayList<>();
    int[] of = sheets[s].of;
    for (int i = 0; i < of.length / 2; i++) {
      if (in(of[2 * i], 0, 1) && in(of[2 * i + 1], 0, 999) && lines.size() < 12) lines.add(new int[] {of[2 * i], of[2 * i + 1]});
    }
    int least = -1, many = 0;
    for (int g = 40; g >= 0; g--) {
      Set<Integer> on0 = new HashSet<>(), on1 = new HashSet<>();
      boolean fits = true;
      for (int[] l : lines) {
        fits &= on0.add(l[1] + g * l[0]);
        fits &= on1.add(l[1] + g * (1 - l[0]));
      }
      if (fits) { least = g; many++; }
    }
    return what == 0 ? least : many;
  }

  int heard(int s, int what) {
    if (!in(s, 0, 3) || !in(what, 0, 2)) return err(BEYOND);
    if (sheets[s] == null || sheets[s].of.length < 2) return err(NONE);
    int[] many = new int[41], first = new int[41];
    int[] of = sheets[s].of;
    for (int i = 1; i < of.length; i += 2) {
      BigInteger by = BigInteger.valueOf(of[i]).subtract(BigInteger.valueOf(of[i - 1]));
      if (by.abs().compareTo(BigInteger.valueOf(40)) > 0) continue;
      many[by.abs().intValue()]++;
      if (by.signum() > 0) first[by.intValue()]++;
    }
    int best = 0;
    for (int g = 1; g <= 40; g++) if (many[g] > many[best]) best = g;
    return new int[] {best, many[best], first[best]}[what];
  }

  int often(int p, int word, int d) {
    if (!isVoice(p) || !in(word, 0, 39) || !in(d, 2, 99999)) return err(BEYOND);
    int fails = 10 - now.carries(p, word);
    for (int k = 1; k <= 12; k++) {
      BigInteger all = BigInteger.TEN.pow(k);
      BigInteger over = all.subtract(BigInteger.valueOf(fails).pow(k));
      // over / all >= (d - 1) / d
      if (over.multiply(BigInteger.valueOf(d)).compareTo(all.multiply(BigInteger.valueOf(d - 1))) >= 0) return k;
    }
    return err(NONE);
  }

  int over(int n) {
    if (!in(n, 0, 200)) return err(BEYOND);
    int as = now.ahead(n).taught(), best = -1, most = as;
    for (int p = now.voices.size() - 1; p >= 0; p--) {
      World w = now.copy();
      w.voices.get(p).cliff ^= 1;
      int t = w.ahead(n).taught();
      if (t > as && t >= most) { most = t; best = p; }
    }
    return best < 0 ? err(NONE) : best;
  }

  int seed(int v) { int was = now.z; now.z = v; return was; }

  int voice(int p, int act, int x) {
    if (!isVoice(p) || !in(act, 0, 3)) return err(BEYOND);
    trace.clear();
    int kind = now.voices.get(p).kind;
    return body(kind, kind, act, x, p, now.voices.get(p).m);
  }

  /** The body of an act, looked for from a kind on; KIND the voice's own. */
  private int body(int own, int from, int act, int x, int n, int m) {
    int[] above = {-1, 0, 0, 0, 1, 2, 3};
    int[] found = {10, 11, 12, 13, -1, 20, -1, -1, 30, -1, -1, -1, -1, -1, 40, -1, -1, 50, -1, -1, -1, -1, -1, 60, -1, -1, 70, 71};
    int k = from;
    while (found[4 * k + act] < 0) k = above[k];
    int id = found[4 * k + act];
    if (trace.size() < 40) trace.add(id);
    int a, b;
    switch (id) {
      case 10: return x + n;
      case 11: return 2 * body(own, own, 0, x, n, m);
      case 12: return x - m;
      case 13: a = body(own, own, 1, x, n, m); b = body(own, own, 2, x, n, m); return a ^ b;
      case 20: a = body(own, above[k], 1, x, n, m); b = body(own, own, 2, 1, n, m); return a - b;
      case 30: return 3 * body(own, above[k], 0, x, n, m);
      case 40: return -body(own, above[k], 2, x, n, m);
      case 50: return body(own, above[k], 1, x + 1, n, m);
      case 60: a = body(own, above[k], 3, x, n, m); b = body(own, own, 0, 2, n, m); return a - b;
      case 70: return body(own, above[k], 2, x, n, m) ^ n;
      default: a = body(own, own, 1, x, n, m); b = body(own, above[k], 3, x, n, m); return a - b;
    }
  }

  int trace(int i) { return in(i, 0, trace.size() - 1) ? trace.get(i) : err(NONE); }

  int sheet(int s, int bits, int n) {
    if (!in(s, 0, 3) || !(bits == 0 || bits == 8 || bits == 16 || bits == 32)) return err(BEYOND);
    if (bits > 0 && n < 0) return err(STATE);
    if (bits > 0 && n > 40) return err(BEYOND);
    sheets[s] = bits == 0 ? null : new Sheet(bits, n);
    return 1;
  }

  int put(int s, int i, int v) {
    if (!in(s, 0, 3)) return err(BEYOND);
    if (sheets[s] == null) return err(NONE);
    if (!in(i, 0, sheets[s].of.length - 1)) return err(BEYOND);
    int off = 32 - sheets[s].bits;
    sheets[s].of[i] = v << off >> off;
    return 1;
  }

  int move(int s, int i, int o, int j, int n) {
    if (!in(s, 0, 3) || !in(o, 0, 3)) return err(BEYOND);
    if (sheets[s] == null || sheets[o] == null) return err(NONE);
    if (sheets[s].bits != sheets[o].bits) return err(KIND);
    int[] from = sheets[s].of.clone();
    int[] to = sheets[o].of;
    if (n < 0 || i < 0 || j < 0 || (long) i + n > from.length || (long) j + n > to.length) return err(BEYOND);
    for (int k = 0; k < n; k++) to[j + k] = from[i + k];
    return n;
  }

  int image() { kept = now.copy(); return ++images; }

  int restore() {
    if (kept == null) return err(NONE);
    now = kept.copy();
    return now.second;
  }

  int tell(int v) {
    if (now.waits.size() == 20) return err(FULL);
    now.waits.add(v);
    return now.waits.size();
  }

  int check() {
    List<Integer> were = now.waits;
    now.waits = new ArrayList<>();
    for (int i = 0; i < were.size(); i++) if (now.ahead(i + 1).shouts.size() != were.get(i)) return 1 + i;
    return 0;
  }

  int count(int what) {
    if (!in(what, 0, 9)) return err(BEYOND);
    return new int[] {now.second, now.voices.size(), now.shouts.size(), now.due.size(), now.gap(), now.wind,
      now.tape.length(), now.waits.size(), trace.size(), now.z}[what];
  }

  int told(int k) { return in(k, 1, 5) ? errors[k] : err(BEYOND); }
}
