/** Each promise with answers worked out by hand: ordinary inputs, edges, wrong inputs. */
public final class PromisesTest {
  private static final int BEYOND = -1000000001;
  private static final int NONE = -1000000002;
  private static final int STATE = -1000000003;
  private static final int FULL = -1000000004;
  private static final int KIND = -1000000005;
  private static int wrong = 0;
  private static int asked = 0;
  private static int promise = 0;
  private static DeafBell x;

  private static void due(int got, int want) {
    asked++;
    if (got == want) return;
    wrong++;
    int line = StackWalker.getInstance().walk(s -> s.skip(1).findFirst().get().getLineNumber());
    System.out.println("promise " + promise + ", line " + line + ": answered " + got + ", due is " + want);
  }

  private static void begin(int of) {
    promise = of;
    x = new DeafBell();
  }

  private static void voices(int... kmAndCliff) {
    for (int i = 0; i < kmAndCliff.length; i += 2) due(x.person(kmAndCliff[i], kmAndCliff[i + 1]), i / 2);
  }

  private static void feed(String bytes) {
    for (int i = 0; i < bytes.length(); i++) x.feed(bytes.charAt(i), 1);
  }

  private static int text(int use, String bytes) {
    feed(bytes);
    return x.text(use);
  }

  private static void sheet(int sheet, int bits, int... numbers) {
    due(x.sheet(sheet, bits, numbers.length), 1);
    for (int i = 0; i < numbers.length; i++) due(x.put(sheet, i, numbers[i]), 1);
  }

  private static void trace(int... bodies) {
    due(x.count(8), bodies.length);
    for (int i = 0; i < bodies.length; i++) due(x.trace(i), bodies[i]);
    due(x.trace(bodies.length), NONE);
  }

  private static void p1() {
    begin(1);
    int[] first = {0, 0, 0, 0, 7, 0, 0, 0, 0, 1};
    for (int i = 0; i < first.length; i++) due(x.count(i), first[i]);
    for (int k = 1; k <= 5; k++) due(x.told(k), 0);
    due(x.ofVoice(0, 0), BEYOND);
    due(x.ofShout(0, 0), BEYOND);
    for (int s = 0; s < 4; s++) due(x.lesson(s), NONE);
    due(x.restore(), NONE);
    due(x.law(0, 1, 2, 3, 4), 0);
    due(x.law(1, 1, 2, 3, 4), 2);
    due(x.trace(0), NONE);
  }

  private static void p2() {
    begin(2);
    due(x.air(0, 1), 7);
    due(x.air(0, 20), 1);
    due(x.air(1, 9), 0);
    due(x.count(4), 29);
    due(x.air(1, 0), 9);
    due(x.air(2, 9), 0);
    due(x.air(2, 0), 9);
    for (int what = 0; what < 3; what++) {
      due(x.air(what, -1), BEYOND);
      due(x.air(what, what == 0 ? 21 : 10), BEYOND);
    }
    due(x.air(0, 0), BEYOND);
    due(x.air(3, 1), BEYOND);
    due(x.air(-1, 1), BEYOND);
    due(x.count(4), 20);
    due(x.count(5), 0);
  }

  private static void p3() {
    begin(3);
    due(x.person(-1, 0), BEYOND);
    due(x.person(70, 0), BEYOND);
    due(x.person(0, -1), BEYOND);
    due(x.person(0, 2), BEYOND);
    due(x.count(1), 0);
    voices(0, 0, 69, 1, 12, 0, 23, 1, 34, 0, 45, 1);
    due(x.person(0, 0), FULL);
    due(x.person(70, 0), BEYOND);
    due(x.count(1), 6);
  }

  private static void p4() {
    begin(4);
    voices(9, 0, 12, 1, 24, 0, 37, 1, 45, 0, 56, 1);
    int[][] of = {{0, 9, 0, 3}, {1, 2, 1, 1}, {2, 4, 0, 7}, {3, 7, 1, 1}, {4, 5, 0, 0}, {5, 6, 1, 9}};
    for (int v = 0; v < 6; v++) for (int what = 0; what < 4; what++) due(x.ofVoice(v, what), of[v][what]);
    x.air(1, 1);
    x.air(2, 4);
    int[] thinks = {3, 1, 7, 1, 1, 13};
    for (int v = 0; v < 6; v++) due(x.ofVoice(v, 3), thinks[v]);
    x.become(0, 68);
    due(x.ofVoice(0, 3), 10);
    x.become(0, 19);
    due(x.ofVoice(0, 3), 0);
    x.become(0, 13);
    due(x.ofVoice(0, 3), 0);
    x.become(0, 42);
    due(x.ofVoice(0, 3), 2);
    due(x.ofVoice(6, 0), BEYOND);
    due(x.ofVoice(-1, 0), BEYOND);
    due(x.ofVoice(0, 4), BEYOND);
    due(x.ofVoice(0, -1), BEYOND);
  }

  private static void p5() {
    begin(5);
    voices(0, 0, 11, 0, 22, 0, 33, 0, 48, 0, 55, 0);
    int[] calm = {9, 9, 9, 10, 7, 4};
    for (int v = 0; v < 6; v++) for (int word = 0; word < 40; word += 13) due(x.carries(v, word), calm[v]);
    x.air(2, 8);
    int[] verb = {1, 1, 1, 10, 0, 0};
    for (int v = 0; v < 6; v++) {
      due(x.carries(v, 38), calm[v]);
      due(x.carries(v, 39), verb[v]);
    }
    x.become(0, 60);
    due(x.carries(0, 0), 2);
    due(x.carries(0, 1), 2);
    // what AIRS gives comes once, behind the half, and only the end is held: 1 - 2 + 4
    due(text(0, "4"), 1);
    due(x.carries(4, 39), 3);
    due(x.carries(5, 39), 4);
    due(x.carries(5, 38), 8);
    due(x.carries(3, 0), 10);
    due(text(0, "0-w-f-i*k"), 1);
    due(x.carries(3, 0), 0);
    x.air(2, 1);
    due(x.carries(3, 0), 7);
    x.air(1, 2);
    due(x.carries(3, 1), 4);
    due(x.carries(6, 0), BEYOND);
    due(x.carries(-1, 0), BEYOND);
    due(x.carries(0, 40), BEYOND);
    due(x.carries(0, -1), BEYOND);
  }

  private static void p6() {
    begin(6);
    voices(3, 0, 13, 1, 23, 0, 33, 1, 49, 0, 53, 1);
    int[] says = {31, 31, 31, 31, 0, 31};
    for (int v = 0; v < 6; v++) due(x.says(v, 30), says[v]);
    due(x.says(0, 39), 0);
    x.become(0, 63);
    due(x.says(0, 39), 39);
    due(x.says(0, 0), 0);
    due(text(1, "w*m+c*7"), 1);
    due(x.says(0, 5), 5);
    due(x.says(1, 5), 22);
    due(x.says(2, 5), 15);
    due(x.says(3, 30), 17);
    due(x.says(4, 30), 39);
    due(x.says(4, 39), 0);
    due(text(1, "0-w"), 1);
    due(x.says(1, 5), 0);
    due(x.says(4, 5), 9);
    due(x.says(6, 0), BEYOND);
    due(x.says(-1, 0), BEYOND);
    due(x.says(0, 40), BEYOND);
    due(x.says(0, -1), BEYOND);
  }

  private static void p7() {
    begin(7);
    voices(0, 0, 0, 1);
    due(x.go(0, 1), 0);
    due(x.ofVoice(0, 2), 1);
    due(x.go(0, 1), 1);
    due(x.go(1, 0), 1);
    due(x.go(2, 0), BEYOND);
    due(x.go(-1, 0), BEYOND);
    due(x.go(0, 2), BEYOND);
    due(x.go(0, -1), BEYOND);
    due(x.ofVoice(0, 2), 1);
  }

  private static void p8() {
    begin(8);
    voices(5, 1);
    due(x.become(0, 69), 0);
    due(x.ofVoice(0, 0), 6);
    due(x.ofVoice(0, 1), 9);
    due(x.ofVoice(0, 2), 1);
    due(x.become(0, 0), 6);
    due(x.become(0, 70), BEYOND);
    due(x.become(0, -1), BEYOND);
    due(x.become(1, 0), BEYOND);
    due(x.become(-1, 0), BEYOND);
    due(x.ofVoice(0, 0), 0);
  }

  private static void p9() {
    begin(9);
    voices(5, 1);
    int[][] under = {{0}, {0, 1}, {0, 2}, {0, 3}, {0, 1, 4}, {0, 2, 5}, {0, 3, 6}};
    for (int kind = 0; kind < 7; kind++) {
      x.become(0, kind * 10 + kind);
      for (int k = 0; k < 7; k++) {
        int want = KIND;
        for (int u : under[kind]) if (u == k) want = kind;
        due(x.as(0, k), want);
      }
    }
    due(x.as(0, 7), BEYOND);
    due(x.as(0, -1), BEYOND);
    due(x.as(1, 0), BEYOND);
    due(x.as(-1, 0), BEYOND);
    due(x.told(5), 33);
  }

  private static void p10() {
    begin(10);
    due(x.shout(0, 0), BEYOND);
    voices(5, 1);
    due(x.shout(0, 40), BEYOND);
    due(x.shout(0, -1), BEYOND);
    due(x.shout(1, 0), BEYOND);
    due(x.shout(-1, 0), BEYOND);
    for (int i = 0; i < 40; i++) due(x.shout(0, i), i);
    due(x.shout(0, 0), FULL);
    due(x.shout(0, 40), BEYOND);
    due(x.count(2), 40);
  }

  private static void p11() {
    begin(11);
    voices(5, 1, 15, 0);
    x.seconds(3);
    x.air(1, 4);
    due(x.shout(0, 6), 0);
    due(x.shout(1, 7), 1);
    x.air(1, 0);
    int[][] of = {{3, 0, 1, 6, -1, 14}, {3, 1, 0, 7, -1, 14}, {14, 1, 0, 7, 0, 21}};
    due(x.seconds(12), 3);
    x.go(0, 0);
    for (int s = 0; s < 3; s++) for (int what = 0; what < 6; what++) due(x.ofShout(s, what), of[s][what]);
    due(x.ofShout(3, 0), BEYOND);
    due(x.ofShout(-1, 0), BEYOND);
    due(x.ofShout(0, 6), BEYOND);
    due(x.ofShout(0, -1), BEYOND);
  }

  private static void p12() {
    begin(12);
    // two DEAF ones say the question itself, over and over
    voices(60, 0, 60, 1);
    x.air(0, 1);
    due(x.shout(0, 3), 0);
    due(x.shout(0, 4), 1);
    due(x.seconds(8), 4);
    for (int s = 1; s < 4; s++) {
      due(x.lead(s, 0), 1);
      due(x.lead(s, 1), s);
    }
    due(x.lead(0, 0), 0);
    due(x.lead(0, 1), 1);
    due(x.lead(4, 0), BEYOND);
    due(x.lead(-1, 0), BEYOND);
    due(x.lead(0, 2), BEYOND);
    due(x.lead(0, -1), BEYOND);
  }

  private static void p13() {
    begin(13);
    voices(30, 0, 30, 1);
    x.shout(0, 4);
    x.shout(1, 38);
    x.shout(1, 3);
    // over at 7, answered at 8, back at 15: taught when SECOND is above that
    due(x.seconds(15), 5);
    due(x.taught(), 0);
    due(x.seconds(1), 5);
    due(x.taught(), 2);
    begin(13);
    voices(30, 0, 41, 1);
    x.shout(0, 4);
    due(x.seconds(50), 3);
    // GUESSER said 6, a QUESTION itself, to which 7 came
    due(x.ofShout(1, 3), 6);
    due(x.ofShout(2, 3), 7);
    due(x.taught(), 1);
  }

  private static void p14() {
    begin(14);
    voices(20, 0, 20, 1);
    x.shout(0, 4);
    x.shout(0, 6);
    x.seconds(8);
    due(x.count(3), 2);
    due(x.forget(), 2);
    due(x.count(2), 0);
    due(x.count(3), 0);
    due(x.count(0), 8);
    due(x.seconds(9), 0);
    due(x.forget(), 0);
    for (int i = 0; i < 40; i++) due(x.shout(0, 1), i);
    due(x.forget(), 40);
    due(x.shout(0, 2), 0);
  }

  private static void p15() {
    begin(15);
    due(x.feed(0, 0), BEYOND);
    due(x.feed(0, 9), BEYOND);
    due(x.feed(0, -1), BEYOND);
    // "w+f" lies under bytes that don't come
    due(x.feed(0x7a7a7a7a7a662b77L, 3), 3);
    due(x.feed(0xff2A2A2A2A2A2A2AL, 1), 4);
    due(x.feed(0x3936353433323130L, 1), 5);
    due(x.text(0), 1);
    due(x.law(0, 7, 9, 0, 0), 7);
    for (int i = 1; i <= 6; i++) due(x.feed(0x2b312b312b312b31L, 8), 8 * i);
    due(x.feed(0, 3), FULL);
    due(x.feed(0, 9), BEYOND);
    due(x.feed(0x3131, 2), 50);
    due(x.feed(0, 1), FULL);
    due(x.count(6), 50);
    due(x.text(0), 1);
    due(x.count(6), 0);
    due(x.law(0, 0, 0, 0, 0), 10);
    due(x.feed(-1L, 8), 8);
    due(x.text(0), -10);
  }

  private static void p16() {
    begin(16);
    String[] fine = {"w", "0", "9999", "0007", "w<f", "(w<f)<i", "w<f|f<i", "w=1&i=2|k>3", "!w", "!!!!!w", "!(!(!w))",
      "(((((w)))))", "!!!!!w+!!!!!f", "(((((w)))))*(((((k)))))", "1+2*3-4/5%6", "!w*!f"};
    for (String t : fine) due(text(0, t), 1);
    Object[][] faults = {{"", 0}, {"c", 0}, {"m", 0}, {"w ", 1}, {"ww", 1}, {"12345", 4}, {"w1", 1}, {"1w", 1}, {"w<f<i", 3},
      {"w<f=i", 3}, {"(w<f=i)", 4}, {"w+", 2}, {"(w", 2}, {"(w))", 3}, {")", 0}, {"()", 1}, {"!", 1}, {"!!!!!!w", 5},
      {"((((((w", 5}, {"!(!(!(w", 5}, {"(((((!w", 5}, {"w!", 1}, {"w(", 1}, {"-1", 0}, {"w+-1", 2}, {"w||f", 2}, {"w|", 2},
      {"w==f", 2}, {"(w)f", 3}, {"(w)1", 3}, {"!w!f", 2}, {"1+12345", 6}, {"W", 0}, {"w\u00f7", 1}, {"!!!!!(", 5}, {"<", 0}};
    for (Object[] f : faults) {
      due(text(0, (String) f[0]), -10 - (Integer) f[1]);
      due(x.count(6), 0);
    }
    // the text ahead stays behind a fault: "!w*!f"
    due(x.law(0, 0, 0, 9, 9), 1);
    due(x.law(0, 1, 0, 9, 9), 0);
    due(text(1, "w+m+c"), 1);
    due(text(1, "w+f"), -12);
    due(text(1, "w+i"), -12);
    due(text(1, "w+k"), -12);
    feed("w");
    due(x.text(2), BEYOND);
    due(x.text(-1), BEYOND);
    due(x.count(6), 1);
    due(x.text(1), 1);
    due(x.law(1, 4, 5, 6, 7), 4);
    due(x.told(1), 2);
  }

  private static void p17() {
    begin(17);
    due(x.law(0, 40, 40, 40, 40), 0);
    due(x.law(1, 38, 40, 40, 40), 39);
    due(x.law(1, 39, 0, 0, 0), 0);
    due(x.law(1, Integer.MAX_VALUE, 0, 0, 0), 0);
    due(x.law(1, -7, 0, 0, 0), 0);
    due(x.law(2, 0, 0, 0, 0), BEYOND);
    due(x.law(-1, 0, 0, 0, 0), BEYOND);
    Object[][] values = {{"2+3*2", 8}, {"(2+1)*3", 9}, {"9-3-2", 4}, {"7/2*2", 6}, {"7%4*2", 6}, {"1/0", 0}, {"5%0", 0}, {"w/f", -3},
      {"w%f", -1}, {"w/(0-1)", 7}, {"3<5", 1}, {"5<3", 0}, {"3<3", 0}, {"5>3", 1}, {"3>5", 0},
      {"3>3", 0}, {"3=3", 1}, {"3=4", 0}, {"(0|3)", 1}, {"3|0", 1}, {"0|0", 0}, {"3&5", 1}, {"3&0", 0},
      {"!0", 1}, {"!7", 0}, {"!!7", 1}, {"1|0&0", 1}, {"2<3+4", 1}, {"2=2&3=3", 1}, {"99", 10}, {"0-99", -10}, {"w", -7}, {"f", 2},
      {"i", 3}, {"k", 4}, {"!w+1", 1}, {"1+1&0", 0}, {"8-(3-2)", 7}, {"9999*9999*30>0", 0}, {"9/2", 4}};
    for (Object[] v : values) {
      due(text(0, (String) v[0]), 1);
      due(x.law(0, -7, 2, 3, 4), (Integer) v[1]);
    }
    due(text(0, "w/f"), 1);
    due(x.law(0, Integer.MIN_VALUE, -1, 0, 0), -10);
    due(text(0, "w%f"), 1);
    due(x.law(0, Integer.MIN_VALUE, -1, 0, 0), 0);
    due(text(1, "w*1000+m*100+c"), 1);
    due(x.law(1, 0, 0, 39, 5), 39);
    due(x.law(1, 0, 1, 2, 5), 22);
    due(x.law(1, 1, 0, 3, 5), 3);
    due(x.law(1, 0, 0, -1, 5), 0);
    due(x.law(1, 0, 0, 80, 5), 0);
  }

  private static void p18() {
    begin(18);
    due(x.seconds(0), BEYOND);
    due(x.seconds(-1), BEYOND);
    due(x.seconds(201), BEYOND);
    voices(29, 0, 20, 1, 13, 1, 16, 1);
    // of EAGER ones that think 0 the lesser number answers in the SECOND in which it is heard
    x.shout(0, 8);
    due(x.seconds(7), 1);
    due(x.seconds(1), 2);
    due(x.ofShout(1, 0), 7);
    due(x.ofShout(1, 1), 2);
    due(x.count(3), 0);
    // LATE shouts from where it is when it does, by a GAP of then
    x.forget();
    x.shout(2, 10);
    due(x.seconds(8), 1);
    due(x.count(3), 1);
    x.go(0, 1);
    x.air(0, 2);
    due(x.seconds(12), 2);
    due(x.ofShout(1, 0), 27);
    due(x.ofShout(1, 2), 1);
    due(x.ofShout(1, 5), 29);
    // nobody there; and who shouted it, there now
    x.forget();
    x.shout(1, 10);
    due(x.seconds(5), 1);
    x.shout(1, 10);
    x.go(1, 0);
    due(x.seconds(6), 3);
    due(x.ofShout(2, 1), 1);
    due(x.ofShout(2, 4), 1);
    due(x.count(0), 39);
    heardAsNow();
    many();
    begin(18);
    for (int i = 0; i < 49; i++) due(x.seconds(200), 0);
    due(x.seconds(200), STATE);
    due(x.seconds(201), BEYOND);
    due(x.seconds(199), 0);
    due(x.count(0), 9999);
    due(x.seconds(1), STATE);
    due(x.told(3), 2);
  }

  /** Whether a SHOUT is heard goes by the AIR and the KIND when it comes over. */
  private static void heardAsNow() {
    begin(18);
    voices(0, 0, 30, 1);
    x.shout(0, 2);
    x.become(0, 50);
    due(x.seconds(20), 1);
    x.shout(0, 2);
    x.become(0, 60);
    x.air(2, 5);
    due(x.seconds(20), 3);
    x.shout(0, 2);
    x.air(2, 6);
    due(x.seconds(20), 4);
    // by the AIR of when it was shouted it comes over
    x.air(2, 0);
    x.shout(0, 2);
    x.air(0, 1);
    due(x.seconds(7), 5);
    due(x.count(3), 0);
    due(x.seconds(1), 5);
    due(x.count(3), 1);
  }

  /** 12 are due at most, 40 are shouted at most. */
  private static void many() {
    begin(18);
    voices(20, 0, 20, 1);
    for (int i = 0; i < 13; i++) x.shout(0, 2 * i);
    due(x.seconds(8), 13);
    due(x.count(3), 12);
    for (int i = 0; i < 20; i++) x.shout(0, 1);
    due(x.seconds(3), 40);
    due(x.count(3), 0);
    due(x.ofShout(33, 3), 1);
    due(x.ofShout(39, 3), 13);
  }

  private static void p19() {
    begin(19);
    due(x.loose(0), BEYOND);
    due(x.loose(-1), BEYOND);
    due(x.loose(201), BEYOND);
    voices(30, 0, 30, 1);
    x.shout(0, 3);
    x.shout(0, 5);
    due(x.loose(7), 2);
    due(x.count(9), 1);
    due(x.loose(1), 2);
    int z = (1 * 1103515245 + 12345) * 1103515245 + 12345;
    due(x.count(9), z);
    // a HOARSE one's question carries 4: heard if the rest of the draw is 0 to 3
    int heard = 0;
    for (int v = 0; v < 10; v++) {
      begin(19);
      voices(50, 0, 30, 1);
      x.seed(v * 1000);
      x.shout(0, 2);
      int draw = v * 1000 * 1103515245 + 12345 >>> 8;
      boolean isHeard = draw % 10 < 4;
      heard += isHeard ? 1 : 0;
      due(x.loose(9), isHeard ? 2 : 1);
    }
    due(heard > 0 && heard < 10 ? 1 : 0, 1);
    begin(19);
    for (int i = 0; i < 49; i++) due(x.loose(200), 0);
    due(x.loose(200), STATE);
    due(x.loose(0), BEYOND);
    due(x.loose(199), 0);
    due(x.loose(1), STATE);
  }

  private static void p20() {
    begin(20);
    voices(30, 0, 20, 1);
    x.shout(0, 4);
    // over at 7, due at 10, back at 17
    int[][] then = {{0, 1, 0, 0}, {7, 1, 0, 0}, {8, 1, 1, 0}, {10, 1, 1, 0}, {11, 2, 0, 0}, {17, 2, 0, 0}, {18, 2, 0, 1}, {200, 2, 0, 1}};
    for (int[] t : then) for (int what = 0; what < 3; what++) due(x.then(t[0], what), t[1 + what]);
    due(x.count(0), 0);
    due(x.count(2), 1);
    due(x.then(-1, 0), BEYOND);
    due(x.then(201, 0), BEYOND);
    due(x.then(0, 3), BEYOND);
    due(x.then(0, -1), BEYOND);
    x.forget();
    for (int i = 0; i < 49; i++) x.seconds(200);
    x.seconds(199);
    x.shout(0, 4);
    due(x.then(18, 2), 1);
    // nothing is drawn for: what carries 4 isn't heard, what carries 5 is
    x.become(0, 50);
    due(x.then(50, 0), 1);
    due(text(0, "1"), 1);
    due(x.then(50, 0), 2);
    due(x.count(9), 1);
  }

  private static void p21() {
    begin(21);
    voices(30, 0, 20, 1);
    x.shout(0, 4);
    int[] of = {10, 1, 1, 5, 0, 17};
    for (int what = 0; what < 6; what++) due(x.thenShout(11, 1, what), of[what]);
    due(x.thenShout(10, 1, 0), NONE);
    due(x.thenShout(0, 0, 3), 4);
    due(x.thenShout(200, 2, 3), NONE);
    due(x.thenShout(200, 39, 3), NONE);
    due(x.thenShout(200, 40, 3), BEYOND);
    due(x.thenShout(200, -1, 3), BEYOND);
    due(x.thenShout(201, 0, 3), BEYOND);
    due(x.thenShout(-1, 0, 3), BEYOND);
    due(x.thenShout(0, 0, 6), BEYOND);
    due(x.thenShout(0, 0, -1), BEYOND);
    due(x.count(2), 1);
  }

  private static void p22() {
    begin(22);
    due(x.lesson(4), BEYOND);
    due(x.lesson(-1), BEYOND);
    due(x.lesson(0), NONE);
    sheet(0, 8);
    due(x.lesson(0), -1);
    sheet(0, 8, 21, -1);
    due(x.lesson(0), -1);
    sheet(0, 8, 20);
    due(x.lesson(0), 34);
    // 3 and 2 would be heard at once if 3 is asked in 0, 2 in 1: 2 waits, and so does its answer
    sheet(0, 8, 2, 3);
    due(x.lesson(0), 18);
    sheet(0, 8, 3, 3, 3, 3, 3);
    due(x.lesson(0), 21);
    sheet(0, 8, 21, 0, 0, -1, 0, 0, 0, 20, 20);
    due(x.lesson(0), 18);
    // asked in 0, heard in 2: nothing else may be asked then
    x.air(0, 1);
    sheet(0, 8, 0, 0, 0);
    due(x.lesson(0), 6);
    x.air(1, 1);
    due(x.lesson(0), 6);
  }

  private static void p23() {
    begin(23);
    due(x.poem(4, 0), BEYOND);
    due(x.poem(-1, 0), BEYOND);
    due(x.poem(0, 2), BEYOND);
    due(x.poem(0, -1), BEYOND);
    due(x.poem(0, 0), NONE);
    sheet(0, 16);
    due(x.poem(0, 0), 0);
    due(x.poem(0, 1), 41);
    sheet(0, 16, 0, 5, 1, 5);
    due(x.poem(0, 0), 1);
    due(x.poem(0, 1), 40);
    sheet(0, 16, 0, 5, 0, 5, 1, 9);
    due(x.poem(0, 0), -1);
    due(x.poem(0, 1), 0);
    // said on 0 in 0, on 1 in 0, 1, 2: heard on 1 in g, on 0 in g, g + 1, g + 2
    sheet(0, 16, 0, 0, 1, 0, 1, 1, 1, 2);
    due(x.poem(0, 0), 3);
    due(x.poem(0, 1), 38);
    sheet(0, 16, 2, 0, -1, 0, 0, 1000, 0, -1, 1, 999, 0);
    due(x.poem(0, 1), 41);
    sheet(0, 16, 1, 999, 1, 999);
    due(x.poem(0, 1), 0);
    sheet(0, 16, 1, 1000, 1, 1000, 2, 9, 2, 9);
    due(x.poem(0, 1), 41);
    // a number without another one is no two
    sheet(0, 16, 0, 0, 0);
    due(x.poem(0, 1), 41);
    // the thirteenth line doesn't count
    due(x.sheet(0, 16, 26), 1);
    for (int i = 0; i < 13; i++) x.put(0, 2 * i + 1, i == 12 ? 0 : i);
    due(x.poem(0, 1), 41);
    x.put(0, 23, 0);
    due(x.poem(0, 1), 0);
    due(x.poem(0, 0), -1);
  }

  private static void p24() {
    begin(24);
    due(x.heard(4, 0), BEYOND);
    due(x.heard(-1, 0), BEYOND);
    due(x.heard(0, 3), BEYOND);
    due(x.heard(0, -1), BEYOND);
    due(x.heard(0, 0), NONE);
    sheet(0, 32);
    due(x.heard(0, 0), NONE);
    sheet(0, 32, 7);
    due(x.heard(0, 0), NONE);
    sheet(0, 32, 1, 8, 20, 13, -3, 4, 5, 5, 6, 6, 9);
    heard(7, 3, 2);
    sheet(0, 32, 5, 5, 6, 6, 0, 3, 0, 3);
    heard(0, 2, 0);
    sheet(0, 32, 0, 41, 41, 0);
    heard(0, 0, 0);
    sheet(0, 32, 0, 40, 41, 0);
    heard(40, 1, 1);
    sheet(0, 32, Integer.MIN_VALUE, Integer.MAX_VALUE, Integer.MAX_VALUE, Integer.MIN_VALUE, 9, 0);
    heard(9, 1, 0);
    sheet(0, 32, Integer.MIN_VALUE, 0, Integer.MIN_VALUE + 3, Integer.MIN_VALUE + 5);
    heard(2, 1, 1);
  }

  private static void heard(int... best) {
    for (int what = 0; what < 3; what++) due(x.heard(0, what), best[what]);
  }

  private static void p25() {
    begin(25);
    voices(0, 0, 30, 0, 50, 0, 60, 0);
    // 9 tenths: 10, 100, .. to 1
    due(x.often(0, 0, 2), 1);
    due(x.often(0, 0, 10), 1);
    due(x.often(0, 0, 11), 2);
    due(x.often(0, 0, 99999), 5);
    due(x.often(1, 0, 99999), 1);
    // 4 tenths: 6 of 10 are lost, 12 times leave 1 in 459
    due(x.often(2, 0, 2), 2);
    due(x.often(2, 0, 459), 12);
    due(x.often(2, 0, 460), NONE);
    x.air(2, 9);
    due(x.often(0, 0, 10), 1);
    due(x.often(0, 1, 2), NONE);
    due(x.often(3, 1, 2), 7);
    x.air(2, 5);
    due(x.often(3, 1, 4096), 12);
    due(x.often(3, 1, 4097), NONE);
    due(x.often(4, 0, 2), BEYOND);
    due(x.often(-1, 0, 2), BEYOND);
    due(x.often(0, 40, 2), BEYOND);
    due(x.often(0, -1, 2), BEYOND);
    due(x.often(0, 0, 1), BEYOND);
    due(x.often(0, 0, 100000), BEYOND);
  }

  private static void p26() {
    begin(26);
    due(x.over(0), NONE);
    due(x.over(-1), BEYOND);
    due(x.over(201), BEYOND);
    voices(60, 0, 20, 0, 30, 0);
    x.shout(0, 4);
    // nobody hears it; DEAF says the word itself; LATE answers at 10, back at 17, MASTER at 8, back at 15
    due(x.over(15), NONE);
    due(x.over(16), 2);
    due(x.over(17), 2);
    due(x.over(18), 1);
    // DEAF's word is a question, over at 16, which MASTER answers at 17, back at 24
    due(x.over(24), 1);
    due(x.over(25), 0);
    due(x.over(200), 0);
    due(x.ofVoice(1, 2), 0);
    due(x.count(0), 0);
    x.go(1, 1);
    due(x.over(200), NONE);
    due(x.over(16), 2);
  }

  private static void p27() {
    begin(27);
    due(x.seed(Integer.MIN_VALUE), 1);
    due(x.seed(7), Integer.MIN_VALUE);
    due(x.seed(-1000000001), 7);
    due(x.seed(0), -1000000001);
    due(x.count(9), 0);
    due(x.told(1), 0);
  }

  private static void p28() {
    begin(28);
    voices(3, 0, 4, 0, 5, 0);
    // n 2, m 5
    int[][] due = {{12, 24, 5, 29}, {12, 28, 5, 25}, {36, 72, 5, 77}, {12, 24, -5, -29}, {12, 30, 5, 27}, {36, 72, 5, 65}, {12, 24, -7, 55}};
    for (int kind = 0; kind < 7; kind++) {
      x.become(2, 10 * kind + 5);
      for (int act = 0; act < 4; act++) due(x.voice(2, act, 10), due[kind][act]);
    }
    x.become(2, 0);
    due(x.voice(2, 0, Integer.MAX_VALUE), Integer.MIN_VALUE + 1);
    due(x.voice(0, 2, Integer.MIN_VALUE), Integer.MAX_VALUE - 2);
    due(x.count(8), 1);
    due(x.voice(3, 0, 0), BEYOND);
    due(x.voice(-1, 0, 0), BEYOND);
    due(x.voice(0, 4, 0), BEYOND);
    due(x.voice(0, -1, 0), BEYOND);
    due(x.trace(0), 12);
    // an answer of an act is no ERROR, whatever it is
    due(x.voice(0, 0, -1000000001), -1000000001);
    due(x.told(1), 4);
  }

  private static void p29() {
    begin(29);
    due(x.trace(0), NONE);
    voices(3, 0);
    int[][] tells = {{13, 11, 10, 12}, {13, 20, 11, 10, 12, 12}, {13, 11, 30, 10, 12}, {13, 11, 10, 40, 12},
      {13, 50, 20, 11, 10, 12, 12}, {60, 13, 11, 30, 10, 12, 30, 10}, {71, 11, 10, 13, 11, 10, 70, 40, 12}};
    for (int kind = 0; kind < 7; kind++) {
      x.become(0, 10 * kind);
      x.voice(0, 3, 1);
      trace(tells[kind]);
    }
    x.voice(0, 2, 1);
    trace(70, 40, 12);
    due(x.trace(-1), NONE);
    due(x.trace(40), NONE);
    due(x.trace(Integer.MAX_VALUE), NONE);
  }

  private static void p30() {
    begin(30);
    due(x.sheet(4, 8, 1), BEYOND);
    due(x.sheet(-1, 8, 1), BEYOND);
    due(x.sheet(4, 8, -1), BEYOND);
    due(x.sheet(0, 7, 1), BEYOND);
    due(x.sheet(0, 7, -1), BEYOND);
    due(x.sheet(0, 64, 1), BEYOND);
    due(x.sheet(0, 8, -1), STATE);
    due(x.sheet(0, 8, 41), BEYOND);
    due(x.lesson(0), NONE);
    due(x.sheet(0, 8, 40), 1);
    due(x.put(0, 39, 1), 1);
    due(x.put(0, 40, 1), BEYOND);
    due(x.sheet(0, 16, 41), BEYOND);
    due(x.put(0, 39, 1), 1);
    due(x.sheet(0, 32, 2), 1);
    due(x.put(0, 1, 41), 1);
    due(x.heard(0, 1), 0);
    due(x.sheet(0, 32, 2), 1);
    due(x.heard(0, 1), 1);
    due(x.sheet(0, 0, -5), 1);
    due(x.put(0, 0, 1), NONE);
    due(x.sheet(0, 0, 50), 1);
    due(x.sheet(0, 8, 0), 1);
    due(x.lesson(0), -1);
    due(x.put(0, 0, 1), BEYOND);
  }

  private static void p31() {
    begin(31);
    due(x.put(4, 0, 0), BEYOND);
    due(x.put(-1, 0, 0), BEYOND);
    due(x.put(0, 0, 0), NONE);
    due(x.put(0, -1, 0), NONE);
    sheet(0, 8, 256 + 20, 0);
    due(x.put(0, 2, 0), BEYOND);
    due(x.put(0, -1, 0), BEYOND);
    due(x.heard(0, 0), 20);
    x.put(0, 0, 255);
    due(x.heard(0, 0), 1);
    due(x.heard(0, 2), 1);
    sheet(0, 16, 65535, 65536 + 9);
    due(x.heard(0, 0), 10);
    sheet(0, 32, 65535, 65536 + 9);
    due(x.heard(0, 0), 10);
    sheet(0, 32, 65535, 9);
    due(x.heard(0, 1), 0);
    sheet(0, 8, 128, 127);
    due(x.heard(0, 1), 0);
  }

  private static void p32() {
    begin(32);
    due(x.move(4, 0, 0, 0, 0), BEYOND);
    due(x.move(0, 0, 4, 0, 0), BEYOND);
    due(x.move(-1, 0, 0, 0, 0), BEYOND);
    due(x.move(0, 0, -1, 0, 0), BEYOND);
    due(x.move(0, 0, 1, 0, 0), NONE);
    sheet(0, 16, 1, 2, 3, 4, 5);
    due(x.move(0, 0, 1, 0, 0), NONE);
    due(x.move(1, 0, 0, 0, 0), NONE);
    sheet(1, 8, 0, 0);
    due(x.move(0, 0, 1, 0, 0), KIND);
    due(x.move(0, -1, 1, 9, -9), KIND);
    sheet(1, 16, 0, 9);
    due(x.move(0, 4, 1, 0, 1), 1);
    due(x.heard(1, 0), 4);
    due(x.move(0, 4, 1, 0, 2), BEYOND);
    due(x.move(0, 0, 1, 1, 2), BEYOND);
    due(x.move(0, 0, 1, 0, -1), BEYOND);
    due(x.move(0, -1, 1, 0, 1), BEYOND);
    due(x.move(0, 0, 1, -1, 1), BEYOND);
    due(x.move(0, 5, 1, 2, 0), 0);
    due(x.move(0, 6, 1, 0, 0), BEYOND);
    due(x.move(0, 0, 1, 3, 0), BEYOND);
    due(x.move(0, Integer.MAX_VALUE, 1, 0, 1), BEYOND);
    due(x.move(0, 0, 1, 1, Integer.MAX_VALUE), BEYOND);
    // over itself, both ways: 1 1 2 3 4, then 1 2 3 4 4
    due(x.move(0, 0, 0, 1, 4), 4);
    sheet(1, 16, 0, 0);
    int[] up = {1, 1, 2, 3, 4};
    for (int i = 0; i < 5; i++) same(i, up[i]);
    due(x.move(0, 1, 0, 0, 4), 4);
    int[] down = {1, 2, 3, 4, 4};
    for (int i = 0; i < 5; i++) same(i, down[i]);
  }

  private static void same(int i, int want) {
    x.put(1, 1, 0);
    due(x.move(0, i, 1, 0, 1), 1);
    due(x.heard(1, 0), want);
  }

  private static void p33() {
    begin(33);
    due(x.image(), 1);
    due(x.image(), 2);
    due(x.restore(), 0);
    due(x.image(), 3);
    voices(0, 0);
    due(x.image(), 4);
    due(x.count(1), 1);
    due(x.restore(), 0);
    due(x.count(1), 1);
  }

  private static void p34() {
    begin(34);
    due(x.restore(), NONE);
    voices(23, 0, 34, 1);
    x.air(0, 3);
    x.air(1, 2);
    x.air(2, 1);
    due(text(0, "2"), 1);
    due(text(1, "w+3"), 1);
    x.shout(1, 2);
    x.shout(0, 3);
    x.seconds(6);
    x.seed(99);
    x.tell(5);
    x.tell(6);
    feed("w+");
    sheet(0, 8, 1);
    due(x.image(), 1);
    x.become(0, 60);
    x.go(1, 0);
    x.person(0, 0);
    for (int what = 0; what < 3; what++) x.air(what, 9);
    due(x.text(0), -12);
    due(text(0, "0-2"), 1);
    due(text(1, "0"), 1);
    x.loose(20);
    x.forget();
    x.shout(0, 9);
    x.seed(3);
    x.check();
    x.tell(0);
    x.voice(0, 2, 2);
    sheet(0, 8, 7, 1);
    for (int again = 0; again < 2; again++) {
      due(x.restore(), 6);
      int[] counts = {6, 2, 2, 1, 5, 1, 2, 2, 3, 99};
      for (int i = 0; i < counts.length; i++) due(x.count(i), counts[i]);
      due(x.ofVoice(0, 0), 2);
      due(x.ofVoice(1, 2), 1);
      due(x.law(0, 0, 0, 0, 0), 2);
      due(x.law(1, 1, 0, 0, 0), 4);
      due(x.ofShout(0, 3), 2);
      due(x.ofShout(1, 3), 3);
      due(x.thenShout(6, 2, 0), 11);
      due(x.heard(0, 0), 6);
      due(x.told(2), 1);
      due(x.check(), 1);
      feed("1");
      due(x.text(0), 1);
      x.seconds(9);
    }
  }

  private static void p35() {
    begin(35);
    for (int i = 1; i <= 20; i++) due(x.tell(i * 1000), i);
    due(x.tell(0), FULL);
    due(x.count(7), 20);
    due(x.check(), 1);
    due(x.count(7), 0);
    due(x.tell(Integer.MIN_VALUE), 1);
  }

  private static void p36() {
    begin(36);
    due(x.check(), 0);
    voices(30, 0, 30, 1);
    x.shout(0, 4);
    x.seconds(6);
    // over at 7, answered at 8, so behind 3 SECONDS more
    int[][] rows = {{0, 1}, {0, 1, 1}, {0, 1, 1, 2, 2}, {3, 1, 1, 1}, {1, 2}, {5, 1, 1, 2, 2, 1}, {4, 1, 1, 2, 3, 2}};
    for (int[] row : rows) {
      for (int i = 1; i < row.length; i++) x.tell(row[i]);
      due(x.check(), row[0]);
      due(x.count(7), 0);
    }
    due(x.count(0), 6);
    due(x.count(2), 1);
  }

  private static void p37() {
    begin(37);
    voices(0, 0, 20, 1);
    x.air(1, 2);
    x.air(2, 3);
    x.shout(0, 2);
    x.shout(0, 3);
    x.shout(0, 4);
    x.seconds(10);
    feed("1234");
    for (int i = 0; i < 5; i++) x.tell(i);
    x.voice(0, 1, 1);
    x.seed(-1000000001);
    int[] counts = {10, 2, 3, 2, 9, 3, 4, 5, 2, -1000000001};
    for (int i = 0; i < counts.length; i++) due(x.count(i), counts[i]);
    due(x.told(1), 0);
    due(x.count(10), BEYOND);
    due(x.count(-1), BEYOND);
    due(x.told(1), 2);
  }

  private static void p38() {
    begin(38);
    due(x.told(0), BEYOND);
    due(x.told(6), BEYOND);
    due(x.told(1), 2);
    x.restore();
    x.sheet(0, 8, -1);
    voices(0, 0, 0, 0, 0, 0, 0, 0, 0, 0, 0, 0);
    for (int i = 0; i < 3; i++) x.person(0, 0);
    for (int i = 0; i < 4; i++) x.as(0, 1);
    int[] told = {2, 1, 1, 3, 4};
    for (int k = 1; k <= 5; k++) due(x.told(k), told[k - 1]);
    x.image();
    x.restore();
    due(text(0, "?"), -10);
    for (int k = 1; k <= 5; k++) due(x.told(k), told[k - 1]);
  }

  public static void main(String[] args) {
    p1(); p2(); p3(); p4(); p5(); p6(); p7(); p8(); p9(); p10();
    p11(); p12(); p13(); p14(); p15(); p16(); p17(); p18(); p19(); p20();
    p21(); p22(); p23(); p24(); p25(); p26(); p27(); p28(); p29(); p30();
    p31(); p32(); p33(); p34(); p35(); p36(); p37(); p38();
    System.out.println(wrong == 0 ? "all " + asked + " answers are as due" : wrong + " of " + asked + " answers are not as due");
    if (wrong != 0) System.exit(1);
  }
}
