/** Edges of the promises 27 to 38: draws, ACTS, SHEETS, IMAGES, what is told. */
final class RestEdges extends Edges {
  static void all() {
    seed();
    voice();
    bodies();
    trace();
    sheets();
    put();
    move();
    image();
    restore();
    tell();
    check();
    count();
    told();
  }

  private static void seed() {
    edge(27, "z becomes v: what it was (any number).");
    due(x.seed(MIN), 1);
    due(x.seed(MAX), MIN);
    due(x.seed(0), MAX);
    due(x.seed(BEYOND), 0);
    due(x.seed(-1), BEYOND);
    counts(9, -1);
    // a z that looks like an ERROR is none
    for (int k = 1; k <= 5; k++) due(x.told(k), 0);
  }

  private static void voice() {
    edge(28, "An ACT of a VOICE: any number. BEYOND.");
    due(x.voice(0, 0, 0), BEYOND);
    voices(3, 0);
    due(x.voice(0, 0, 7), 7);
    due(x.voice(0, 3, 7), 10);
    for (int person : new int[] {-1, 1, MIN, MAX}) due(x.voice(person, 0, 0), BEYOND);
    for (int act : new int[] {-1, 4, MIN, MAX}) due(x.voice(0, act, 0), BEYOND);
    due(x.told(1), 9);
    // a number that looks like an ERROR is none
    for (int error = BEYOND; error >= KIND; error--) due(x.voice(0, 0, error), error);
    due(x.told(1), 9);
    for (int k = 2; k <= 5; k++) due(x.told(k), 0);

    edge(28, "ACTS of a VOICE, with a number x (ints that go round); n is its number, m as told: 0 calls, 1 hears, 2 waits, 3 tells.");
    voices(0, 0, 5, 0);
    due(x.voice(1, 0, MAX), MIN);
    due(x.voice(1, 1, MAX), 0);
    due(x.voice(1, 2, MIN), MAX - 4);
    due(x.voice(0, 2, MIN), MIN);
    x.become(0, 30);
    due(x.voice(0, 2, MIN), MIN);
    x.become(1, 40);
    // x + 1 goes round, too: calls(MIN) * 2 is 2, less waits(1)
    due(x.voice(1, 1, MAX), 1);
    x.become(1, 20);
    due(x.voice(1, 0, 1431655765), 2);
    // n is 0 for the first VOICE, 5 for the sixth; m is that of now
    again();
    voices(0, 0, 0, 0, 0, 0, 0, 0, 0, 0, 0, 0);
    due(x.voice(0, 0, 10), 10);
    due(x.voice(5, 0, 10), 15);
    x.become(5, 9);
    due(x.voice(5, 2, 10), 1);
  }

  /** The four ACTS of voice 2, with 10. */
  private static void acts(int km, int... due) {
    x.become(2, km);
    for (int act = 0; act < 4; act++) due(x.voice(2, act, 10), due[act]);
  }

  private static void bodies() {
    edge(28, "BODIES: PUPIL: 10 calls: x + n. 11 hears: calls(x) * 2. 12 waits: x - m. 13 tells: hears(x) ^ waits(x).");
    voices(0, 0, 0, 0, 0, 0);
    acts(5, 12, 24, 5, 24 ^ 5);
    acts(0, 12, 24, 10, 24 ^ 10);

    edge(28, "EAGER: 20 hears: super.hears(x) - waits(1).");
    voices(0, 0, 0, 0, 0, 0);
    acts(15, 12, 28, 5, 28 ^ 5);

    edge(28, "LATE: 30 calls: super.calls(x) * 3.");
    voices(0, 0, 0, 0, 0, 0);
    acts(25, 36, 72, 5, 72 ^ 5);

    edge(28, "MASTER: 40 waits: -super.waits(x).");
    voices(0, 0, 0, 0, 0, 0);
    acts(35, 12, 24, -5, 24 ^ -5);

    edge(28, "GUESSER: 50 hears: super.hears(x + 1).");
    voices(0, 0, 0, 0, 0, 0);
    acts(45, 12, 30, 5, 30 ^ 5);

    edge(28, "HOARSE: 60 tells: super.tells(x) - calls(2).");
    voices(0, 0, 0, 0, 0, 0);
    acts(55, 36, 72, 5, (72 ^ 5) - 12);

    edge(28, "DEAF: 70 waits: super.waits(x) ^ n. 71 tells: hears(x) - super.tells(x).");
    voices(0, 0, 0, 0, 0, 0);
    acts(65, 12, 24, -5 ^ 2, 24 - (24 ^ (-5 ^ 2)));
  }

  private static void traced(int km, int act, int... bodies) {
    x.become(0, km);
    x.voice(0, act, 1);
    counts(8, bodies.length);
    for (int i = 0; i < bodies.length; i++) due(x.trace(i), bodies[i]);
    due(x.trace(bodies.length), NONE);
  }

  private static void trace() {
    edge(29, "THE TRACE's i-th. NONE: there is none such.");
    due(x.trace(0), NONE);
    voices(0, 0);
    x.voice(0, 1, 1);
    due(x.trace(0), 11);
    due(x.trace(1), 10);
    for (int i : new int[] {2, -1, 39, 40, MIN, MAX}) due(x.trace(i), NONE);

    edge(29, "calls(..) is the BODY of its KIND, or of the next KIND above that has one; super.calls(..) that from the KIND above the BODY's on.");
    voices(0, 0);
    traced(40, 0, 10);
    traced(40, 1, 50, 20, 11, 10, 12);
    traced(50, 0, 30, 10);
    traced(50, 1, 11, 30, 10);
    traced(60, 0, 10);
    traced(60, 2, 70, 40, 12);
    traced(30, 2, 40, 12);
    traced(10, 1, 20, 11, 10, 12);

    edge(29, "THE TRACE: the numbers of BODIES of the latest voice(), as they began (what stands left is worked out first), the first 40.");
    voices(0, 0);
    traced(0, 3, 13, 11, 10, 12);
    traced(10, 3, 13, 20, 11, 10, 12, 12);
    traced(20, 3, 13, 11, 30, 10, 12);
    traced(30, 3, 13, 11, 10, 40, 12);
    traced(40, 3, 13, 50, 20, 11, 10, 12, 12);
    traced(50, 3, 60, 13, 11, 30, 10, 12, 30, 10);
    traced(60, 3, 71, 11, 10, 13, 11, 10, 70, 40, 12);
    // of the latest alone, and a refused one is none
    traced(0, 2, 12);
    due(x.voice(0, 4, 1), BEYOND);
    due(x.voice(1, 0, 1), BEYOND);
    counts(8, 1);
    due(x.trace(0), 12);
  }

  private static void sheets() {
    edge(30, "A SHEET has n numbers, all 0, of so many bits (8, 16, 32; 0: it is missing, n doesn't matter): 1. BEYOND."
      + " STATE: n is below 0 (ahead of BEYOND of n).");
    for (int s : new int[] {-1, 4, MIN, MAX}) due(x.sheet(s, 8, 1), BEYOND);
    for (int bits : new int[] {-1, 1, 7, 9, 15, 17, 24, 31, 33, 64, MIN, MAX}) due(x.sheet(0, bits, 1), BEYOND);
    due(x.lesson(0), NONE);
    for (int n : new int[] {-1, MIN}) due(x.sheet(0, 8, n), STATE);
    for (int n : new int[] {41, MAX}) due(x.sheet(0, 8, n), BEYOND);
    due(x.lesson(0), NONE);
    // all 0, also where numbers stood, by as many or fewer or more
    sheet(0, 32, 9, 9, 9, 9);
    due(x.sheet(0, 32, 4), 1);
    due(x.heard(0, 1), 2);
    sheet(0, 32, 9, 1, 9, 1);
    due(x.sheet(0, 16, 2), 1);
    due(x.heard(0, 1), 1);
    due(x.heard(0, 0), 0);
    due(x.sheet(0, 8, 40), 1);
    due(x.heard(0, 1), 20);
    due(x.heard(0, 0), 0);
    // missing, whatever n is
    for (int n : new int[] {0, 40, 41, -1, MIN, MAX}) {
      due(x.sheet(0, 8, 0), 1);
      due(x.lesson(0), -1);
      due(x.sheet(0, 0, n), 1);
      due(x.lesson(0), NONE);
      due(x.sheet(0, 0, n), 1);
    }
    // a row that was missing has none of its numbers again
    sheet(0, 8, 5, 6);
    x.sheet(0, 0, 0);
    x.sheet(0, 8, 2);
    due(x.heard(0, 0), 0);

    edge(30, ORDER);
    due(x.sheet(4, 8, -1), BEYOND);
    due(x.sheet(4, 0, -1), BEYOND);
    due(x.sheet(0, 7, -1), BEYOND);
    due(x.sheet(0, 8, -1), STATE);
    due(x.sheet(0, 8, 41), BEYOND);

    edge(30, "SHEETS 0 .. 3 are rows of 8, 16, 32 bits (with a sign), at most 40 numbers, or missing (as at first).");
    for (int s = 0; s < 4; s++) {
      due(x.lesson(s), NONE);
      due(x.sheet(s, 8 << s % 3, 40), 1);
      due(x.put(s, 39, 1), 1);
      due(x.put(s, 40, 1), BEYOND);
      due(x.lesson(s), 18);
    }
    due(x.lesson(4), BEYOND);
  }

  /** A number as a SHEET of so many bits has it: told by the one from which it doesn't differ. */
  private static void held(int bits, int v, int as) {
    sheet(0, 32, as, as);
    sheet(1, bits, v, 0);
    sheet(2, bits, as, 0);
    sheet(3, bits, 0, 0);
    x.move(1, 0, 3, 0, 1);
    x.move(2, 0, 3, 1, 1);
    due(x.heard(3, 0), 0);
    due(x.heard(3, 1), 1);
    // and 1 from the one that is 1 less or, where there is none, 1 more
    boolean least = as == MIN || bits < 32 && as == -(1 << bits - 1);
    x.put(3, 1, least ? as + 1 : as - 1);
    due(x.heard(3, 0), 1);
    due(x.heard(3, 2), least ? 1 : 0);
  }

  private static void put() {
    edge(31, "Number i of a SHEET becomes v (its lowest bits): 1. BEYOND: no such SHEET. NONE: it is missing. BEYOND: no such number.");
    for (int s : new int[] {-1, 4, MIN, MAX}) due(x.put(s, 0, 0), BEYOND);
    for (int s = 0; s < 4; s++) due(x.put(s, 0, 0), NONE);
    x.sheet(0, 8, 2);
    for (int i : new int[] {-1, 2, 39, 40, MIN, MAX}) due(x.put(0, i, 0), BEYOND);
    due(x.put(0, 0, 1), 1);
    due(x.put(0, 1, 5), 1);
    due(x.heard(0, 0), 4);
    due(x.heard(0, 2), 1);
    x.sheet(1, 8, 0);
    due(x.put(1, 0, 0), BEYOND);

    edge(31, "Number i of a SHEET becomes v (its lowest bits): 1.");
    int[][] of8 = {{127, 127}, {128, -128}, {255, -1}, {256, 0}, {-128, -128}, {-129, 127}, {MAX, -1}, {MIN, 0}, {276, 20}};
    for (int[] v : of8) held(8, v[0], v[1]);
    again();
    int[][] of16 = {{32767, 32767}, {32768, -32768}, {65535, -1}, {65536, 0}, {-32769, 32767}, {MAX, -1}, {MIN, 0}, {128, 128}};
    for (int[] v : of16) held(16, v[0], v[1]);
    again();
    int[][] of32 = {{MAX, MAX}, {MIN, MIN}, {65536, 65536}, {-1, -1}, {32768, 32768}};
    for (int[] v : of32) held(32, v[0], v[1]);

    edge(31, ORDER);
    due(x.put(4, -1, 0), BEYOND);
    due(x.put(0, -1, 0), NONE);
    due(x.put(0, 40, 0), NONE);
  }

  /** The numbers of SHEET 0 (16 bits; 0 to 40), by SHEETS 3 and 2. */
  private static void row(int... numbers) {
    x.sheet(3, 16, 2);
    for (int i = 0; i < numbers.length; i++) {
      x.move(0, i, 3, 0, 1);
      due(x.heard(3, 0), numbers[i]);
    }
  }

  private static void move() {
    edge(32, "n numbers of a SHEET, from number i on, come to another one (or the same), from its number j on, as they all were: n."
      + " BEYOND: no such SHEET. NONE: one is missing. KIND: they are of unlike bits."
      + " BEYOND: n, i, or j is below 0, or they don't stand there (n 0, too).");
    for (int s : new int[] {-1, 4, MIN, MAX}) {
      due(x.move(s, 0, 0, 0, 0), BEYOND);
      due(x.move(0, 0, s, 0, 0), BEYOND);
    }
    due(x.move(0, 0, 0, 0, 0), NONE);
    sheet(0, 16, 1, 2, 3, 4, 5);
    due(x.move(0, 0, 1, 0, 0), NONE);
    due(x.move(1, 0, 0, 0, 0), NONE);
    for (int bits : new int[] {8, 32}) {
      x.sheet(1, bits, 5);
      due(x.move(0, 0, 1, 0, 1), KIND);
      due(x.move(1, 0, 0, 0, 0), KIND);
    }
    sheet(1, 16, 11, 12, 13);
    due(x.move(1, 0, 0, 2, 3), 3);
    row(1, 2, 11, 12, 13);
    due(x.move(1, 2, 0, 0, 1), 1);
    row(13, 2, 11, 12, 13);
    due(x.move(0, 0, 0, 0, 5), 5);
    row(13, 2, 11, 12, 13);

    edge(32, "(or the same), from its number j on, as they all were: n.");
    sheet(0, 16, 1, 2, 3, 4, 5);
    due(x.move(0, 0, 0, 1, 4), 4);
    row(1, 1, 2, 3, 4);
    due(x.move(0, 1, 0, 0, 4), 4);
    row(1, 2, 3, 4, 4);
    due(x.move(0, 0, 0, 2, 3), 3);
    row(1, 2, 1, 2, 3);

    edge(32, "BEYOND: n, i, or j is below 0, or they don't stand there (n 0, too).");
    sheet(0, 16, 1, 2, 3, 4, 5);
    sheet(1, 16, 6, 7);
    due(x.move(0, 4, 1, 0, 2), BEYOND);
    due(x.move(0, 0, 1, 1, 2), BEYOND);
    due(x.move(0, 0, 1, 0, 3), BEYOND);
    due(x.move(0, 5, 1, 0, 1), BEYOND);
    due(x.move(0, 0, 1, 2, 1), BEYOND);
    for (int low : new int[] {-1, MIN}) {
      due(x.move(0, low, 1, 0, 1), BEYOND);
      due(x.move(0, 0, 1, low, 1), BEYOND);
      due(x.move(0, 0, 1, 0, low), BEYOND);
      due(x.move(0, low, 1, 0, 0), BEYOND);
      due(x.move(0, 0, 1, low, 0), BEYOND);
    }
    // what would wrap
    due(x.move(0, MAX, 1, 0, 1), BEYOND);
    due(x.move(0, 1, 1, 0, MAX), BEYOND);
    due(x.move(0, 0, 1, MAX, MAX), BEYOND);
    due(x.move(0, MAX, 1, 0, MAX), BEYOND);
    row(1, 2, 3, 4, 5);
    // n 0: behind the last number is the last place
    due(x.move(0, 5, 1, 2, 0), 0);
    due(x.move(0, 6, 1, 0, 0), BEYOND);
    due(x.move(0, 0, 1, 3, 0), BEYOND);
    x.sheet(1, 16, 0);
    due(x.move(0, 0, 1, 0, 0), 0);
    due(x.move(0, 0, 1, 0, 1), BEYOND);
    // beyond a shorter row the numbers that stood there once don't stand
    x.sheet(0, 16, 2);
    x.sheet(1, 16, 40);
    due(x.move(0, 1, 1, 0, 2), BEYOND);
    due(x.move(0, 0, 1, 38, 2), 2);

    edge(32, ORDER);
    due(x.move(4, 0, 0, -1, -1), BEYOND);
    due(x.move(0, -1, 1, 0, 1), NONE);
    x.sheet(0, 8, 1);
    due(x.move(0, -1, 1, 0, 1), NONE);
    x.sheet(1, 16, 1);
    due(x.move(0, -1, 1, 0, 1), KIND);
    x.sheet(1, 8, 1);
    due(x.move(0, -1, 1, 0, 1), BEYOND);
  }

  private static void image() {
    edge(33, "All (but SHEETS, THE TRACE, what told() tells, and how often this was done) is kept as an IMAGE, in place of one ahead:"
      + " how often that was done.");
    due(x.image(), 1);
    due(x.image(), 2);
    voices(0, 0);
    due(x.image(), 3);
    x.go(0, 1);
    due(x.restore(), 0);
    // the latest, with its VOICE; and what is restored doesn't bring back how often
    due(x.ofVoice(0, 2), 0);
    due(x.image(), 4);
    due(x.restore(), 0);
    due(x.image(), 5);

    edge(33, "(but SHEETS, THE TRACE, what told() tells, and how often this was done)");
    voices(0, 0);
    sheet(0, 8, 3, 0);
    x.sheet(1, 8, 1);
    x.voice(0, 1, 1);
    x.told(0);
    x.image();
    x.put(0, 0, 5);
    x.sheet(1, 0, 0);
    x.sheet(2, 8, 2);
    x.voice(0, 2, 1);
    x.told(0);
    x.restore();
    due(x.heard(0, 0), 5);
    due(x.lesson(1), NONE);
    due(x.heard(2, 0), 0);
    counts(8, 1);
    due(x.trace(0), 12);
    due(x.told(1), 2);
    due(x.told(2), 1);
  }

  /** All that an IMAGE keeps, as richly as it is told in restore(). */
  private static void kept() {
    int[] counts = {6, 2, 2, 1, 5, 1, 2, 2, 0, 99};
    for (int what = 0; what < counts.length; what++) counts(what, counts[what]);
    int[][] voices = {{2, 3, 0, 6}, {3, 4, 1, 1}};
    for (int v = 0; v < 2; v++) for (int what = 0; what < 4; what++) due(x.ofVoice(v, what), voices[v][what]);
    ofShout(0, 0, 1, 1, 2, -1, 5);
    ofShout(1, 0, 0, 0, 3, -1, 5);
    due(x.law(0, 0, 0, 0, 0), 2);
    due(x.law(1, 1, 0, 0, 0), 4);
    // thought of in 5 by voice 0, DUE in 11
    due(x.thenShout(5, 2, 0), NONE);
    int[] then = {11, 0, 0, 5, 0, 16};
    for (int what = 0; what < 6; what++) due(x.thenShout(6, 2, what), then[what]);
  }

  private static void restore() {
    edge(34, "All is as the IMAGE has it, which stays: SECOND. NONE: there is none.");
    due(x.restore(), NONE);
    voices(23, 0, 34, 1);
    airs(3, 2, 1);
    text(0, "2");
    text(1, "w+3");
    x.shout(1, 2);
    x.shout(0, 3);
    x.seconds(6);
    x.seed(99);
    x.tell(2);
    x.tell(7);
    feed("w+");
    kept();
    due(x.image(), 1);
    kept();
    for (int turn = 0; turn < 2; turn++) {
      due(x.text(0), -12);
      text(0, "0-2");
      text(1, "0");
      feed("12345678");
      x.become(0, 60);
      x.go(1, 0);
      x.person(0, 0);
      airs(9, 9, 9);
      x.check();
      for (int i = 0; i < 5; i++) x.tell(40);
      x.seed(3);
      x.loose(20);
      x.forget();
      for (int i = 0; i < 5; i++) x.shout(0, 8);
      x.seconds(30);
      due(x.restore(), 6);
      kept();
    }
    // THE TAPE's bytes, and the numbers that wait
    feed("f");
    due(x.text(0), 1);
    due(x.law(0, 3, 4, 0, 0), 7);
    due(x.check(), 2);
    // z of then draws
    x.restore();
    x.shout(0, 1);
    x.loose(10);
    int z = (int) (99 * 1103515245L + 12345L);
    counts(9, z);

    edge(34, "All is as the IMAGE has it, which stays: SECOND.");
    // back from the last SECOND, without TEXTS, VOICES, SHOUTS
    x.image();
    goTo(9999);
    voices(0, 0, 0, 1);
    shouts(0, 2, 4);
    text(0, "5");
    text(1, "5");
    due(x.restore(), 0);
    counts(0, 0);
    counts(1, 0);
    counts(2, 0);
    due(x.law(0, 0, 0, 0, 0), 0);
    due(x.law(1, 5, 0, 0, 0), 6);
    due(x.person(0, 0), 0);
    due(x.restore(), 0);
    due(x.person(0, 0), 0);
  }

  private static void tell() {
    edge(35, "One more number waits: how many. FULL: 20 wait.");
    for (int i = 1; i <= 20; i++) due(x.tell(i == 1 ? MIN : i == 2 ? MAX : 0), i);
    due(x.tell(0), FULL);
    due(x.tell(MIN), FULL);
    counts(7, 20);
    due(x.check(), 1);
    due(x.tell(0), 1);
  }

  private static void checked(int want, int... numbers) {
    for (int v : numbers) x.tell(v);
    due(x.check(), want);
    counts(7, 0);
  }

  private static void check() {
    edge(36, "The numbers that wait (none do then) are how many SHOUTS there are behind 1, 2, .. SECONDS AHEAD: 0;"
      + " else 1 and the place (from 0) of the first that isn't so.");
    checked(0);
    checked(0, 0, 0, 0);
    checked(1, 1);
    checked(2, 0, 1);
    checked(1, -1, 0);
    checked(1, MIN);
    voices(0, 0, 30, 1);
    x.shout(0, 4);
    x.seconds(6);
    // over in 7, answered in 8: 2 behind 3 SECONDS
    checked(0, 1, 1, 2, 2);
    checked(3, 1, 1, 1);
    checked(2, 1, 2, 2);
    // the first of several
    checked(1, 2, 2, 3);
    // 20 numbers, of which the last isn't so
    int[] twenty = new int[20];
    for (int i = 0; i < 20; i++) twenty[i] = i < 2 ? 1 : 2;
    checked(0, twenty);
    twenty[19] = 3;
    checked(20, twenty);
    // nothing went by
    counts(0, 6);
    counts(2, 1);
    // beyond SECOND 9999, too
    x.forget();
    goTo(9999);
    x.shout(0, 4);
    checked(0, 1, 1, 1, 1, 1, 1, 1, 1, 2);
    counts(0, 9999);
  }

  private static void count() {
    edge(37, "0 SECOND, 1 VOICES, 2 SHOUTS, 3 DUE, 4 GAP, 5 WIND, 6 bytes of THE TAPE, 7 numbers that wait, 8 BODIES in THE TRACE,"
      + " 9 z (any number). BEYOND.");
    for (int what : new int[] {-1, 10, MIN, MAX}) due(x.count(what), BEYOND);
    voices(0, 0, 20, 1);
    airs(7, 2, 3);
    shouts(0, 2, 3, 4);
    x.seconds(10);
    feed("1234");
    for (int i = 0; i < 5; i++) x.tell(i);
    x.voice(0, 1, 1);
    x.seed(FULL);
    int[] counts = {10, 2, 3, 2, 9, 3, 4, 5, 2, FULL};
    for (int what = 0; what < counts.length; what++) counts(what, counts[what]);
    due(x.told(4), 0);
    due(x.told(1), 4);
  }

  private static void told() {
    edge(38, "How many acts have answered an ERROR LOW - k (k 1 .. 5); BEYOND: another k (counted, too).");
    for (int k = 1; k <= 5; k++) due(x.told(k), 0);
    int beyond = 0;
    for (int k : new int[] {0, 6, -1, MIN, MAX}) {
      due(x.told(k), BEYOND);
      beyond++;
      due(x.told(1), beyond);
    }
    for (int k = 2; k <= 5; k++) due(x.told(k), 0);

    edge(38, "ERRORS are answers below -1000000000: LOW is -1000000000; LOW - 1 BEYOND, LOW - 2 NONE, LOW - 3 STATE, LOW - 4 FULL, LOW - 5 KIND.");
    voices(0, 0, 0, 0, 0, 0, 0, 0, 0, 0, 0, 0);
    due(x.air(9, 9), -1000000001);
    for (int i = 0; i < 2; i++) due(x.trace(0), -1000000002);
    for (int i = 0; i < 3; i++) due(x.sheet(0, 8, -1), -1000000003);
    for (int i = 0; i < 4; i++) due(x.person(0, 0), -1000000004);
    for (int i = 0; i < 5; i++) due(x.as(0, 1), -1000000005);
    for (int k = 1; k <= 5; k++) due(x.told(k), k);
    // neither a FAULT nor -1 is one
    text(0, "");
    sheet(0, 8);
    due(x.lesson(0), -1);
    for (int k = 1; k <= 5; k++) due(x.told(k), k);
  }
}
