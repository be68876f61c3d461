/** Edges of the promises 22 to 26: LESSON, POEM, HEARD, OFTEN, OVER. */
final class WouldEdges extends Edges {
  private static final String LESSON = "LESSON of a SHEET (numbers 0 to 20, how long one thinks; those that aren't don't count;"
    + " the first 5 of the others count):";
  private static final String POEM = "POEM of a SHEET: twos (CLIFF 0 or 1, SECOND 0 to 999; others don't count;"
    + " the first 12 that aren't others count):";

  static void all() {
    lesson();
    lessonPlaces();
    poem();
    poemLines();
    heard();
    often();
    over();
  }

  private static void lessonOf(int want, int... numbers) {
    sheet(0, 16, numbers);
    due(x.lesson(0), want);
  }

  private static void lesson() {
    edge(22, "LAST of a LESSON. BEYOND: no such SHEET. NONE: it is missing.");
    for (int s : new int[] {-1, 4, MIN, MAX}) due(x.lesson(s), BEYOND);
    for (int s = 0; s < 4; s++) {
      due(x.lesson(s), NONE);
      sheet(s, 8, s);
      due(x.lesson(s), 14 + s);
      x.sheet(s, 0, 0);
      due(x.lesson(s), NONE);
    }

    edge(22, LESSON);
    lessonOf(14, 0);
    lessonOf(34, 20);
    lessonOf(-1, 21);
    lessonOf(-1, -1);
    lessonOf(-1, 21, -1, 999, -999);
    lessonOf(20, 21, 6, -1);
    // the sixth doesn't count; those that don't count take no place of the five
    lessonOf(18, 0, 0, 0, 0, 0, 20);
    lessonOf(34, 0, 0, 0, 0, 20, 0);
    lessonOf(34, 21, -1, 21, -1, 21, 20, -1);
    lessonOf(18, 0, 21, 0, -1, 0, 0, 21, 0, 20, 20);
    // the whole of the longest SHEET is looked at
    x.sheet(0, 16, 40);
    for (int i = 0; i < 39; i++) x.put(0, i, 21);
    x.put(0, 39, 9);
    due(x.lesson(0), 23);
  }

  private static void lessonPlaces() {
    edge(22, "a QUESTION for each is asked from one CLIFF in some SECOND 0, 1, .., no two in one;");
    lessonOf(14, 0);
    lessonOf(15, 0, 0);
    lessonOf(18, 0, 0, 0, 0, 0);
    // 0 in 0 and 1 in 0 would end in 15
    lessonOf(16, 0, 1);

    edge(22, "its answer is heard there twice GAP and as long as one thinks behind that;");
    for (int delay = 1; delay <= 20; delay += 19) {
      for (int fog = 0; fog <= 9; fog += 9) {
        airs(delay, fog, 9);
        lessonOf(2 * (delay + fog), 0);
        lessonOf(2 * (delay + fog) + 20, 20);
      }
    }

    edge(22, "no answer in a SECOND in which another one is heard, or something is asked.");
    // 3 in 0, 2 in 1 would both be heard in 17
    lessonOf(18, 2, 3);
    lessonOf(18, 3, 2);
    // by a GAP of 1: 0 in 0, 1 are heard in 2, 3, so that nothing is asked then
    airs(1, 0, 0);
    lessonOf(3, 0, 0);
    lessonOf(6, 0, 0, 0);
    lessonOf(7, 0, 0, 0, 0);
    lessonOf(10, 0, 0, 0, 0, 0);
    // 2 in 0, 0 in 1 are heard in 4, 3; a 1 in 2 is heard in 5
    lessonOf(5, 0, 1, 2);

    edge(22, "LAST: the SECOND of the latest answer: the least that can be (-1 without numbers).");
    sheet(0, 8);
    due(x.lesson(0), -1);
    // the longest is asked first, wherever it stands, and the short ones fit in
    lessonOf(34, 0, 20);
    lessonOf(34, 20, 0);
    lessonOf(34, 20, 1);
    lessonOf(34, 1, 20);
    lessonOf(34, 0, 4, 8, 12, 20);
    // 20 and 19 would be heard at once if asked in 0 and 1: 35, in whatever order they stand
    for (int first = 0; first < 5; first++) {
      for (int second = 0; second < 5; second++) {
        int[] five = {20, 19, 2, 1, 0};
        five[0] = five[first];
        five[first] = 20;
        int kept = five[4];
        five[4] = five[second];
        five[second] = kept;
        again();
        lessonOf(35, five);
      }
    }
    lessonOf(21, 3, 3, 3, 3, 3);
    airs(1, 0, 0);
    lessonOf(12, 2, 2, 2, 2, 2);
  }

  private static void poemOf(int least, int many, int... numbers) {
    sheet(0, 16, numbers);
    due(x.poem(0, 0), least);
    due(x.poem(0, 1), many);
  }

  private static void poem() {
    edge(23, "POEM: what 0 LEAST (-1: none of them), 1 MANY. BEYOND: no such SHEET, what. NONE: it is missing.");
    for (int s : new int[] {-1, 4, MIN, MAX}) due(x.poem(s, 0), BEYOND);
    for (int s = 0; s < 4; s++) due(x.poem(s, 0), NONE);
    due(x.poem(3, 1), NONE);
    sheet(3, 8, 0, 5, 0, 5);
    due(x.poem(3, 0), -1);
    due(x.poem(3, 1), 0);
    for (int what : new int[] {-1, 2, MIN, MAX}) due(x.poem(3, what), BEYOND);

    edge(23, ORDER);
    due(x.poem(4, 2), BEYOND);
    due(x.poem(0, 2), BEYOND);
    due(x.poem(0, -1), BEYOND);
    due(x.poem(0, 0), NONE);

    edge(23, "lines, each said on its CLIFF in its SECOND, heard on the other one a GAP of g behind that.");
    // 0 is heard on CLIFF 1 in g, where another line is said in 40; on CLIFF 0 that is heard in 40 + g
    poemOf(0, 40, 0, 0, 1, 40);
    poemOf(0, 41, 0, 0, 1, 41);
    poemOf(0, 40, 1, 0, 0, 40);
    poemOf(0, 41, 0, 0, 0, 40);

    edge(23, "It FITS g, if on neither CLIFF two lines are in one SECOND (said or heard).");
    poemOf(0, 41, 0, 7);
    poemOf(-1, 0, 0, 7, 0, 7);
    poemOf(-1, 0, 1, 7, 1, 7);
    poemOf(1, 40, 0, 7, 1, 7);
    poemOf(0, 40, 0, 7, 1, 8);
    poemOf(0, 40, 0, 8, 1, 7);
    poemOf(3, 38, 0, 0, 1, 0, 1, 1, 1, 2);
    poemOf(0, 41);

    edge(23, "LEAST: the least g of 0 to 40 that it FITS; MANY: how many of these it FITS.");
    poemOf(0, 41);
    // on CLIFF 0 in 0, 1, on CLIFF 1 in 29 to 36, 38, 40: each g of 28 to 40 brings two together
    poemOf(0, 28, 0, 0, 0, 1, 1, 29, 1, 30, 1, 31, 1, 32, 1, 33, 1, 34, 1, 35, 1, 36, 1, 38, 1, 40);
    // on CLIFF 0 in 0, 5, .. 30, on CLIFF 1 in 36 to 40: each g of 6 to 40 does
    poemOf(0, 6, 0, 0, 0, 5, 0, 10, 0, 15, 0, 20, 0, 25, 0, 30, 1, 36, 1, 37, 1, 38, 1, 39, 1, 40);
    // on CLIFF 0 in 0, 6, .. 30, on CLIFF 1 in 30 to 35: each g of 0 to 35 does
    poemOf(36, 5, 0, 0, 0, 6, 0, 12, 0, 18, 0, 24, 0, 30, 1, 30, 1, 31, 1, 32, 1, 33, 1, 34, 1, 35);
  }

  private static void poemLines() {
    edge(23, POEM);
    poemOf(-1, 0, 0, 0, 0, 0);
    poemOf(-1, 0, 1, 999, 1, 999);
    poemOf(0, 41, 1, 1000, 1, 1000);
    poemOf(0, 41, 0, -1, 0, -1);
    poemOf(0, 41, 2, 5, 2, 5);
    poemOf(0, 41, -1, 5, -1, 5);
    // twos, not neighbours: 5, 0 and 0, 5 are none
    poemOf(0, 41, 5, 0, 0, 7, 5, 0);
    // a last number by itself is no two
    poemOf(0, 41, 0, 0, 0);
    poemOf(0, 41, 0);
    // the thirteenth two doesn't count
    lines(13, 12);
    due(x.poem(0, 1), 41);
    lines(13, 11);
    due(x.poem(0, 1), 0);
    // others take no place of the twelve: 7 of them, and 13
    x.sheet(0, 16, 40);
    for (int i = 0; i < 20; i++) {
      x.put(0, 2 * i, i < 7 ? 2 : 1);
      x.put(0, 2 * i + 1, i);
    }
    due(x.poem(0, 1), 41);
    x.put(0, 39, 10);
    due(x.poem(0, 1), 41);
    x.put(0, 37, 10);
    due(x.poem(0, 1), 0);
  }

  /** So many lines on CLIFF 0, in SECONDS of their own; but one (as numbered from 0) is said with the first. */
  private static void lines(int many, int withFirst) {
    x.sheet(0, 16, 2 * many);
    for (int i = 0; i < many; i++) x.put(0, 2 * i + 1, i == withFirst ? 0 : i);
  }

  private static void heardOf(int best, int many, int first, int... numbers) {
    sheet(0, 32, numbers);
    due(x.heard(0, 0), best);
    due(x.heard(0, 1), many);
    due(x.heard(0, 2), first);
  }

  private static void heard() {
    edge(24, "HEARD: what 0 BEST, 1 how many differ so, 2 FIRST. BEYOND: no such SHEET, what. NONE: it is missing; it has no whole two.");
    for (int s : new int[] {-1, 4, MIN, MAX}) due(x.heard(s, 0), BEYOND);
    for (int s = 0; s < 4; s++) due(x.heard(s, 0), NONE);
    sheet(3, 8);
    for (int what = 0; what < 3; what++) due(x.heard(3, what), NONE);
    sheet(3, 8, 5);
    for (int what = 0; what < 3; what++) due(x.heard(3, what), NONE);
    sheet(3, 8, 5, 7);
    int[] of = {2, 1, 1};
    for (int what = 0; what < 3; what++) due(x.heard(3, what), of[what]);
    for (int what : new int[] {-1, 3, MIN, MAX}) due(x.heard(3, what), BEYOND);

    edge(24, ORDER);
    due(x.heard(4, 3), BEYOND);
    due(x.heard(0, 3), BEYOND);
    due(x.heard(0, -1), BEYOND);
    due(x.heard(0, 0), NONE);
    sheet(0, 8, 5);
    due(x.heard(0, 3), BEYOND);
    due(x.heard(0, 2), NONE);

    edge(24, "HEARD by a SHEET: twos (the SECONDS in which one shout was heard on CLIFF 0, on CLIFF 1):");
    heardOf(3, 1, 1, 1, 4);
    // twos, not neighbours: 4, 5 are none; nor is a last number by itself
    heardOf(3, 2, 1, 1, 4, 5, 2);
    heardOf(3, 1, 1, 1, 4, 4);
    heardOf(3, 1, 1, 1, 4, 3);
    heardOf(3, 1, 1, 1, 4, -3);
    heardOf(2, 2, 2, 0, 2, 7, 9, 9);
    // all twos of the longest SHEET, whatever the numbers are
    x.sheet(0, 32, 40);
    for (int i = 0; i < 20; i++) x.put(0, 2 * i, i % 2 == 0 ? -6 : 6);
    due(x.heard(0, 0), 6);
    due(x.heard(0, 1), 20);
    due(x.heard(0, 2), 10);

    edge(24, "BEST: the g of 0 to 40 by which most twos differ, without sign (not wrapping); of several the least; how many do.");
    heardOf(0, 1, 0, 9, 9);
    heardOf(40, 1, 1, 0, 40);
    heardOf(40, 1, 0, 40, 0);
    // 41 is none of them, and none at all leave 0, by 0 twos
    heardOf(0, 0, 0, 0, 41, 41, 0);
    heardOf(7, 1, 0, 0, 41, 41, 0, 7, 0);
    // most, then the least
    heardOf(9, 2, 2, 0, 1, 0, 9, 1, 10);
    heardOf(0, 1, 0, 9, 9, 0, 3);
    heardOf(3, 2, 2, 0, 8, 0, 8, 0, 3, 0, 3);
    heardOf(8, 3, 2, 0, 8, 0, 8, 0, 3, 0, 3, 8, 0);
    // not wrapping: MAX less MIN is no -1
    heardOf(0, 0, 0, MIN, MAX);
    heardOf(0, 0, 0, MAX, MIN);
    heardOf(0, 0, 0, MAX, MIN + 5);
    heardOf(0, 0, 0, 0, MIN);
    heardOf(5, 1, 1, MIN, MIN + 5);

    edge(24, "FIRST: how many of those came from CLIFF 0 (heard there earlier; by 0: from neither).");
    heardOf(4, 3, 2, 0, 4, 4, 0, 10, 14);
    heardOf(4, 2, 0, 4, 0, 14, 10);
    // of those alone: 0, 9 differs otherwise
    heardOf(4, 2, 1, 0, 4, 4, 0, 0, 9);
    heardOf(0, 3, 0, 5, 5, 6, 6, 7, 7);
    heardOf(4, 1, 1, -2, 2);
  }

  /** OFTEN of a PUPIL's QUESTION that CARRIES so many tenths. */
  private static void often(int tenths, int d, int want) {
    text(0, tenths + "-9");
    due(x.carries(0, 0), tenths);
    due(x.often(0, 0, d), want);
  }

  private static void often() {
    edge(25, "OFTEN. BEYOND. NONE: 12 don't do.");
    due(x.often(0, 0, 2), BEYOND);
    voices(0, 0);
    for (int person : new int[] {-1, 1, MIN, MAX}) due(x.often(person, 0, 2), BEYOND);
    for (int word : new int[] {-1, 40, MIN, MAX}) due(x.often(0, word, 2), BEYOND);
    for (int d : new int[] {1, 0, -1, 100000, MIN, MAX}) due(x.often(0, 0, d), BEYOND);
    due(x.often(0, 39, 2), 1);
    x.air(2, 9);
    due(x.often(0, 39, 2), NONE);
    due(x.often(0, 38, 2), 1);

    edge(25, ORDER);
    voices(0, 0);
    x.air(2, 9);
    due(x.often(0, 1, 1), BEYOND);
    due(x.often(0, 1, 100000), BEYOND);
    due(x.often(1, 1, 2), BEYOND);
    due(x.often(0, 1, 2), NONE);

    edge(25, "OFTEN of a VOICE and a WORD: the fewest times (1 to 12) that it is said, so that it gets over at least once with a chance of"
      + " (d less 1) in d (d 2 to 99999) or more.");
    voices(0, 0);
    often(10, 2, 1);
    often(10, 99999, 1);
    often(0, 2, NONE);
    often(0, 99999, NONE);
    // 1 in 10 is lost: just as much is enough
    often(9, 10, 1);
    often(9, 11, 2);
    often(9, 100, 2);
    often(9, 101, 3);
    often(9, 10000, 4);
    often(9, 10001, 5);
    often(9, 99999, 5);
    // 1 in 2 is lost: 12 times leave 1 in 4096
    often(5, 2, 1);
    often(5, 3, 2);
    often(5, 2048, 11);
    often(5, 2049, 12);
    often(5, 4096, 12);
    often(5, 4097, NONE);
    // 9 in 10 are lost: 7 times leave 0.478.., 12 times 0.282..
    often(1, 2, 7);
    often(1, 3, 11);
    often(1, 4, NONE);
    // 2 in 10 are lost: 12 times leave 1 in 244140625, 8 times 1 in 390625, 7 times 1 in 78125
    often(8, 78125, 7);
    often(8, 78126, 8);
    often(8, 99999, 8);
  }

  private static void over() {
    edge(26, "OVER by n. BEYOND. NONE: by none is it more.");
    for (int n : new int[] {-1, 201, MIN, MAX}) due(x.over(n), BEYOND);
    due(x.over(0), NONE);
    due(x.over(200), NONE);
    voices(60, 0, 30, 0);
    x.shout(0, 4);
    // answered in 8, over in 15: less than SECOND by 16
    due(x.over(0), NONE);
    due(x.over(15), NONE);
    due(x.over(16), 1);
    // it is so already
    x.go(1, 1);
    due(x.over(16), NONE);
    due(x.told(2), 5);

    edge(26, "OVER by n: the VOICE by which, if it went to the other CLIFF now, TAUGHT AHEAD by n is greatest, and greater than as it is;"
      + " of several the least.");
    voices(60, 0, 0, 0, 30, 0);
    x.shout(0, 4);
    x.seconds(3);
    x.shout(0, 6);
    // PUPIL's answers are over in 17, 20, MASTER's in 15, 18
    int[] due = {NONE, 2, 2, 1, 2, 2, 1};
    for (int n = 12; n <= 18; n++) due(x.over(n), due[n - 12]);
    // nobody went
    for (int v = 0; v < 3; v++) due(x.ofVoice(v, 2), 0);
    counts(0, 3);
    counts(2, 2);
    // greater than as it is: by PUPIL there both are taught by 18 already, MASTER would only be earlier
    x.go(1, 1);
    due(x.over(18), NONE);
    due(x.over(17), 2);
    due(x.over(15), NONE);
    // from CLIFF 1 to 0, by the last of six
    again();
    voices(60, 1, 60, 1, 60, 1, 60, 1, 60, 1, 30, 1);
    x.shout(0, 38);
    due(x.over(16), 5);
    due(x.then(16, 2), 0);
    // beyond SECOND 9999, too
    x.forget();
    goTo(9999);
    x.shout(0, 38);
    due(x.over(15), NONE);
    due(x.over(16), 5);
    due(x.over(200), 0);
  }
}
