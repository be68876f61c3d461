import java.util.ArrayList;
import java.util.List;
import java.util.function.ToIntFunction;

/** Every refused call of every promise: what it answers, and that nothing but told() is otherwise behind it. */
final class RefusalEdges extends Edges {
  private static final String NOTHING = "one that answers an ERROR changes nothing but what told() tells.";
  private static final int[] FAR = {MIN, MAX};

  private static int promise;

  static void all() {
    voices();
    shouts();
    texts();
    seconds();
    would();
    rest();
    full();
  }

  /** Something of everything, no row of it full. */
  private static DeafBell some() {
    x = new DeafBell();
    voices(23, 0, 34, 1, 45, 1);
    airs(3, 2, 1);
    x.image();
    airs(4, 1, 2);
    text(0, "w-f");
    text(1, "w+m");
    shouts(1, 2, 4);
    shouts(0, 3, 8);
    x.seconds(9);
    x.seed(99);
    x.tell(7);
    x.tell(8);
    feed("w+");
    sheet(0, 8, 3, 5, 8, 1);
    sheet(1, 16, 0, 7, 1, 7, 12);
    sheet(2, 16, 1, 2);
    x.voice(1, 3, 4);
    return x;
  }

  /** 6 VOICES, 40 SHOUTS, 12 DUE, 49 bytes, 20 numbers that wait, SECOND 9999, no IMAGE. */
  private static DeafBell much() {
    x = new DeafBell();
    voices(29, 0, 29, 1, 30, 0, 40, 0, 50, 0, 69, 0);
    goTo(9991);
    for (int i = 0; i < 40; i++) x.shout(0, i < 14 ? 2 * i : 1);
    x.seconds(8);
    feed("1+1+1+1+1+1+1+1+1+1+1+1+1+1+1+1+1+1+1+1+1+1+1+1+1");
    for (int i = 0; i < 20; i++) x.tell(40);
    sheet(0, 8, 3, 5, 8, 1);
    return x;
  }

  /** What can be seen, and then what can be seen behind what empties THE TAPE, the numbers that wait, and brings the IMAGE. */
  private static List<Integer> seen(DeafBell of) {
    List<Integer> all = new ArrayList<>();
    look(of, all);
    all.add(of.text(0));
    all.add(of.law(0, 1, 2, 3, 4));
    all.add(of.check());
    all.add(of.restore());
    for (int what = 0; what < 10; what++) all.add(of.count(what));
    all.add(of.image());
    return all;
  }

  private static void look(DeafBell of, List<Integer> all) {
    for (int what = 0; what < 10; what++) all.add(of.count(what));
    for (int v = 0; v < of.count(1); v++) {
      for (int what = 0; what < 4; what++) all.add(of.ofVoice(v, what));
      all.add(of.carries(v, 5));
      all.add(of.says(v, 5));
    }
    for (int s = 0; s < of.count(2); s++) for (int what = 0; what < 6; what += of.count(2) > 9 ? 3 : 1) all.add(of.ofShout(s, what));
    for (int i = 0; i < of.count(8); i++) all.add(of.trace(i));
    all.add(of.law(0, 1, 2, 3, 4));
    all.add(of.law(1, 1, 2, 3, 4));
    for (int what = 0; what < 3; what++) all.add(of.then(20, what));
    for (int s = 0; s < 4; s++) {
      all.add(of.lesson(s));
      for (int what = 0; what < 2; what++) all.add(of.poem(s, what));
      for (int what = 0; what < 3; what++) all.add(of.heard(s, what));
    }
    all.add(of.taught());
  }

  private static int[] told(DeafBell of) {
    int[] all = new int[6];
    for (int k = 1; k <= 5; k++) all[k] = of.told(k);
    return all;
  }

  private static void refused(boolean isMuch, int error, ToIntFunction<DeafBell> call) {
    List<Integer> untouched = seen(isMuch ? much() : some());
    DeafBell bell = isMuch ? much() : some();
    int[] before = told(bell);
    due(call.applyAsInt(bell), error);
    int[] behind = told(bell);
    for (int k = 1; k <= 5; k++) due(behind[k], before[k] + (k == -1000000000 - error ? 1 : 0));
    List<Integer> touched = seen(bell);
    due(touched.size(), untouched.size());
    for (int i = 0; i < touched.size() && i < untouched.size(); i++) due(touched.get(i), untouched.get(i));
  }

  private static void of(int number) {
    promise = number;
    edge(promise, NOTHING);
  }

  private static void no(int error, ToIntFunction<DeafBell> call) {
    refused(false, error, call);
  }

  private static void fullNo(int number, int error, ToIntFunction<DeafBell> call) {
    edge(number, NOTHING);
    refused(true, error, call);
  }

  /** Each argument just below and just above its bounds, and far from them. */
  private static int[] outside(int least, int most) {
    return new int[] {least - 1, most + 1, FAR[0], FAR[1]};
  }

  private static void voices() {
    of(2);
    for (int v : outside(0, 2)) no(BEYOND, b -> b.air(v, 1));
    for (int v : outside(1, 20)) no(BEYOND, b -> b.air(0, v));
    for (int v : outside(0, 9)) no(BEYOND, b -> b.air(1, v));
    for (int v : outside(0, 9)) no(BEYOND, b -> b.air(2, v));
    of(3);
    for (int v : outside(0, 69)) no(BEYOND, b -> b.person(v, 0));
    for (int v : outside(0, 1)) no(BEYOND, b -> b.person(0, v));
    of(4);
    for (int v : outside(0, 2)) no(BEYOND, b -> b.ofVoice(v, 0));
    for (int v : outside(0, 3)) no(BEYOND, b -> b.ofVoice(0, v));
    of(5);
    for (int v : outside(0, 2)) no(BEYOND, b -> b.carries(v, 0));
    for (int v : outside(0, 39)) no(BEYOND, b -> b.carries(0, v));
    of(6);
    for (int v : outside(0, 2)) no(BEYOND, b -> b.says(v, 0));
    for (int v : outside(0, 39)) no(BEYOND, b -> b.says(0, v));
    of(7);
    for (int v : outside(0, 2)) no(BEYOND, b -> b.go(v, 1));
    for (int v : outside(0, 1)) no(BEYOND, b -> b.go(0, v));
    of(8);
    for (int v : outside(0, 2)) no(BEYOND, b -> b.become(v, 1));
    for (int v : outside(0, 69)) no(BEYOND, b -> b.become(0, v));
    of(9);
    for (int v : outside(0, 2)) no(BEYOND, b -> b.as(v, 0));
    for (int v : outside(0, 6)) no(BEYOND, b -> b.as(0, v));
    no(KIND, b -> b.as(0, 1));
    no(KIND, b -> b.as(1, 6));
  }

  private static void shouts() {
    of(10);
    for (int v : outside(0, 2)) no(BEYOND, b -> b.shout(v, 0));
    for (int v : outside(0, 39)) no(BEYOND, b -> b.shout(0, v));
    int last = some().count(2) - 1;
    of(11);
    for (int v : outside(0, last)) no(BEYOND, b -> b.ofShout(v, 0));
    for (int v : outside(0, 5)) no(BEYOND, b -> b.ofShout(0, v));
    of(12);
    for (int v : outside(0, last)) no(BEYOND, b -> b.lead(v, 0));
    for (int v : outside(0, 1)) no(BEYOND, b -> b.lead(0, v));
  }

  private static void texts() {
    of(15);
    for (int v : outside(1, 8)) no(BEYOND, b -> b.feed(49, v));
    of(16);
    for (int v : outside(0, 1)) no(BEYOND, b -> b.text(v));
    of(17);
    for (int v : outside(0, 1)) no(BEYOND, b -> b.law(v, 1, 1, 1, 1));
  }

  private static void seconds() {
    of(18);
    for (int v : outside(1, 200)) no(BEYOND, b -> b.seconds(v));
    of(19);
    for (int v : outside(1, 200)) no(BEYOND, b -> b.loose(v));
    of(20);
    for (int v : outside(0, 200)) no(BEYOND, b -> b.then(v, 0));
    for (int v : outside(0, 2)) no(BEYOND, b -> b.then(0, v));
    of(21);
    for (int v : outside(0, 200)) no(BEYOND, b -> b.thenShout(v, 0, 0));
    for (int v : outside(0, 39)) no(BEYOND, b -> b.thenShout(0, v, 0));
    for (int v : outside(0, 5)) no(BEYOND, b -> b.thenShout(0, 0, v));
    no(NONE, b -> b.thenShout(200, 39, 0));
  }

  private static void would() {
    of(22);
    for (int v : outside(0, 3)) no(BEYOND, b -> b.lesson(v));
    no(NONE, b -> b.lesson(3));
    of(23);
    for (int v : outside(0, 3)) no(BEYOND, b -> b.poem(v, 0));
    for (int v : outside(0, 1)) no(BEYOND, b -> b.poem(0, v));
    no(NONE, b -> b.poem(3, 0));
    of(24);
    for (int v : outside(0, 3)) no(BEYOND, b -> b.heard(v, 0));
    for (int v : outside(0, 2)) no(BEYOND, b -> b.heard(0, v));
    no(NONE, b -> b.heard(3, 0));
    of(25);
    for (int v : outside(0, 2)) no(BEYOND, b -> b.often(v, 0, 2));
    for (int v : outside(0, 39)) no(BEYOND, b -> b.often(0, v, 2));
    for (int v : outside(2, 99999)) no(BEYOND, b -> b.often(0, 0, v));
    of(26);
    for (int v : outside(0, 200)) no(BEYOND, b -> b.over(v));
    no(NONE, b -> b.over(0));
  }

  private static void rest() {
    of(28);
    for (int v : outside(0, 2)) no(BEYOND, b -> b.voice(v, 0, 0));
    for (int v : outside(0, 3)) no(BEYOND, b -> b.voice(0, v, 0));
    of(29);
    for (int v : outside(0, some().count(8) - 1)) no(NONE, b -> b.trace(v));
    of(30);
    for (int v : outside(0, 3)) no(BEYOND, b -> b.sheet(v, 8, 1));
    for (int v : new int[] {-8, 7, 9, 64, MIN, MAX}) no(BEYOND, b -> b.sheet(0, v, 1));
    for (int v : new int[] {-1, MIN}) no(STATE, b -> b.sheet(0, 16, v));
    for (int v : new int[] {41, MAX}) no(BEYOND, b -> b.sheet(0, 16, v));
    of(31);
    for (int v : outside(0, 3)) no(BEYOND, b -> b.put(v, 0, 1));
    for (int v : outside(0, 3)) no(BEYOND, b -> b.put(0, v, 1));
    no(NONE, b -> b.put(3, 0, 1));
    of(32);
    for (int v : outside(0, 3)) no(BEYOND, b -> b.move(v, 0, 1, 0, 1));
    for (int v : outside(0, 3)) no(BEYOND, b -> b.move(1, 0, v, 0, 1));
    no(NONE, b -> b.move(1, 0, 3, 0, 1));
    no(NONE, b -> b.move(3, 0, 1, 0, 1));
    no(KIND, b -> b.move(0, 0, 1, 0, 1));
    for (int v : outside(0, 3)) no(BEYOND, b -> b.move(1, v, 2, 0, 2));
    for (int v : outside(0, 0)) no(BEYOND, b -> b.move(1, 0, 2, v, 2));
    for (int v : outside(0, 2)) no(BEYOND, b -> b.move(1, 0, 2, 0, v));
    of(37);
    for (int v : outside(0, 9)) no(BEYOND, b -> b.count(v));
    of(38);
    for (int v : outside(1, 5)) no(BEYOND, b -> b.told(v));
  }

  private static void full() {
    fullNo(3, FULL, b -> b.person(0, 0));
    fullNo(10, FULL, b -> b.shout(0, 2));
    fullNo(15, FULL, b -> b.feed(0x3131, 2));
    fullNo(18, STATE, b -> b.seconds(1));
    fullNo(19, STATE, b -> b.loose(1));
    fullNo(25, NONE, b -> b.often(4, 0, 99999));
    fullNo(34, NONE, DeafBell::restore);
    fullNo(35, FULL, b -> b.tell(1));
  }
}
