import java.util.ArrayList;
import java.util.List;

/** What the edges share: the sentence at hand, a new object, and answers held against what is due. */
abstract class Edges {
  static final int BEYOND = -1000000001;
  static final int NONE = -1000000002;
  static final int STATE = -1000000003;
  static final int FULL = -1000000004;
  static final int KIND = -1000000005;
  static final int MIN = Integer.MIN_VALUE;
  static final int MAX = Integer.MAX_VALUE;
  /** Of Terms, and so of every act that can answer more than one ERROR. */
  static final String ORDER = "Each act tells its ERRORS in the order in which they are asked;";

  record Quote(int promise, String words) { }

  static final List<Quote> QUOTES = new ArrayList<>();
  static DeafBell x;
  private static Quote at;
  private static int atAsked;
  private static int asked;
  private static int wrong;

  /** A new object, for what a promise (or Terms, for that promise) says in these words. */
  static void edge(int promise, String words) {
    close();
    at = new Quote(promise, words);
    QUOTES.add(at);
    x = new DeafBell();
  }

  static void again() {
    x = new DeafBell();
  }

  /** A sentence that is quoted and not tried is worse than one that isn't quoted. */
  static void close() {
    if (at != null && asked == atAsked) fault("nothing was asked");
    at = null;
    atAsked = asked;
  }

  static void fault(String what) {
    wrong++;
    System.out.println((at == null ? "" : "promise " + at.promise + ", \"" + at.words + "\": ") + what);
  }

  static void due(int got, int want) {
    asked++;
    if (got == want) return;
    String place = StackWalker.getInstance().walk(s -> {
      StringBuilder lines = new StringBuilder();
      s.skip(1).limit(2).forEach(f -> lines.append(' ').append(f.getFileName()).append(':').append(f.getLineNumber()));
      return lines.toString();
    });
    fault("answered " + got + ", due is " + want + "," + place);
  }

  static int asked() { return asked; }
  static int wrong() { return wrong; }

  // ---- short ways to a state

  static void voices(int... kmAndCliff) {
    for (int i = 0; i < kmAndCliff.length; i += 2) x.person(kmAndCliff[i], kmAndCliff[i + 1]);
  }

  static void airs(int delay, int fog, int wind) {
    x.air(0, delay);
    x.air(1, fog);
    x.air(2, wind);
  }

  static void feed(String bytes) {
    for (int i = 0; i < bytes.length(); i += 8) {
      int n = Math.min(8, bytes.length() - i);
      long word = 0;
      for (int k = n - 1; k >= 0; k--) word = word << 8 | bytes.charAt(i + k);
      x.feed(word, n);
    }
  }

  static int text(int use, String bytes) {
    feed(bytes);
    return x.text(use);
  }

  static void sheet(int sheet, int bits, int... numbers) {
    x.sheet(sheet, bits, numbers.length);
    for (int i = 0; i < numbers.length; i++) x.put(sheet, i, numbers[i]);
  }

  /** A SECOND of 200 or more, by SECONDS that bring nothing. */
  static void goTo(int second) {
    for (int left = second - x.count(0); left > 0; left -= 200) x.seconds(Math.min(200, left));
  }

  static void shouts(int person, int... words) {
    for (int word : words) x.shout(person, word);
  }

  static void ofShout(int shout, int... of) {
    for (int what = 0; what < of.length; what++) due(x.ofShout(shout, what), of[what]);
  }

  static void counts(int what, int want) {
    due(x.count(what), want);
  }
}
