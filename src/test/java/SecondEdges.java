/** Edges of the promises 18 to 21: SECONDS, LOOSE ones, AHEAD. */
final class SecondEdges extends Edges {
  private static final String NOBODY = "what it SAYS to that WORD is DUE in this SECOND and THINKS more"
    + " (unless 12 are DUE; nobody, if there is no VOICE).";
  private static final String SHOUTED = "(2) what is DUE in this SECOND or was ahead, in order: it is shouted"
    + " (from the CLIFF on which that VOICE is then; unless there are 40 SHOUTS: then it is dropped).";

  static void all() {
    seconds();
    overs();
    whoAnswers();
    isDue();
    isShouted();
    loose();
    draws();
    then();
    thenShout();
  }

  private static void seconds() {
    edge(18, "n (1 to 200) SECONDS go by: how many SHOUTS there are. BEYOND. STATE: SECOND would be above 9999.");
    for (int n : new int[] {0, -1, 201, MIN, MAX}) due(x.seconds(n), BEYOND);
    counts(0, 0);
    due(x.seconds(1), 0);
    counts(0, 1);
    due(x.seconds(200), 0);
    counts(0, 201);
    voices(0, 0);
    shouts(0, 1, 1);
    due(x.seconds(1), 2);

    edge(18, "SECOND (0 to 9999; 0 at first).");
    counts(0, 0);
    goTo(9800);
    due(x.seconds(200), STATE);
    counts(0, 9800);
    due(x.seconds(199), 0);
    counts(0, 9999);
    due(x.seconds(1), STATE);
    due(x.seconds(200), STATE);
    counts(0, 9999);
    // in the last SECOND one can still shout, and it comes over behind it
    voices(0, 0);
    due(x.shout(0, 2), 0);
    due(x.ofShout(0, 0), 9999);
    due(x.ofShout(0, 5), 10006);

    edge(18, ORDER);
    goTo(9999);
    for (int n : new int[] {0, 201, MAX}) due(x.seconds(n), BEYOND);
    due(x.seconds(1), STATE);

    edge(18, "(3) SECOND is 1 more.");
    voices(0, 0, 30, 1);
    x.shout(0, 2);
    for (int second = 1; second <= 20; second++) {
      due(x.seconds(1), second <= 8 ? 1 : 2);
      counts(0, second);
    }
    ofShout(1, 8, 1, 1, 3, 0, 15);
  }

  private static void overs() {
    edge(18, "A SECOND goes by: (1) SHOUTS by numbers that come over in it, to the other CLIFF than that they came from:");
    // 0 is shouted ahead of 1, and both come over in 7: 0 is answered first
    voices(0, 0, 30, 1, 0, 1);
    x.shout(0, 8);
    x.seconds(1);
    x.air(0, 6);
    x.shout(0, 4);
    due(x.seconds(6), 2);
    counts(3, 0);
    due(x.seconds(1), 2);
    counts(3, 2);
    due(x.seconds(1), 4);
    ofShout(2, 8, 1, 1, 9, 0, 14);
    ofShout(3, 8, 1, 1, 5, 1, 14);
    // both ways, and by the CLIFF of then: voice 0 goes over behind its SHOUT, and hears it there itself
    again();
    voices(0, 0);
    x.shout(0, 2);
    x.go(0, 1);
    due(x.seconds(11), 2);
    due(x.ofShout(1, 2), 1);
    // on the CLIFF from which it came nobody hears it
    again();
    voices(0, 1, 0, 1);
    x.shout(0, 2);
    due(x.seconds(200), 1);
    // the shortest and the longest way
    again();
    voices(0, 0, 30, 1);
    airs(1, 0, 0);
    x.shout(0, 2);
    x.seconds(1);
    counts(3, 0);
    x.seconds(1);
    counts(3, 1);
    again();
    voices(0, 0, 30, 1);
    airs(20, 9, 0);
    x.shout(0, 2);
    airs(1, 0, 0);
    x.seconds(29);
    counts(3, 0);
    x.seconds(1);
    counts(3, 1);

    edge(18, "each that is heard (it CARRIES 5 or more, by the AIR and the KIND of who shouted as they are now) and is a QUESTION:");
    carriedBy("5", 2, 2);
    carriedBy("4", 2, 1);
    carriedBy("10", 3, 1);
    carriedBy("10", 2, 2);
    carriedBy("0", 2, 1);
    // WIND, KIND and AIRS as they are when it comes over, not when it was shouted
    again();
    voices(60, 0, 30, 1);
    x.air(2, 6);
    x.shout(0, 2);
    x.air(2, 5);
    due(x.seconds(9), 2);
    x.shout(0, 2);
    x.air(2, 6);
    due(x.seconds(9), 3);
    x.shout(0, 2);
    x.become(0, 30);
    due(x.seconds(9), 5);
    x.shout(0, 2);
    x.become(0, 50);
    due(x.seconds(9), 6);
    x.shout(0, 2);
    text(0, "1");
    due(x.seconds(9), 8);
    // it is who shouted that CARRIES, not who hears
    again();
    voices(50, 0, 30, 1);
    x.shout(1, 2);
    due(x.seconds(12), 2);
  }

  /** A PUPIL's WORD that CARRIES as many tenths as told, by AIRS. */
  private static void carriedBy(String tenths, int word, int want) {
    again();
    voices(0, 0, 30, 1);
    text(0, tenths + "-9");
    x.shout(0, word);
    due(x.seconds(9), want);
  }

  /** By whom a QUESTION of voice 0, on CLIFF 0, is answered; -1 if nobody does. */
  private static void answered(int by) {
    x.shout(0, 2);
    x.seconds(40);
    due(x.count(2) < 2 ? -1 : x.ofShout(1, 1), by);
    x.forget();
  }

  private static void whoAnswers() {
    edge(18, "of all VOICES on that CLIFF the one that THINKS least (of several the least number; who shouted it, too, if there now)"
      + " will answer:");
    voices(29, 0, 0, 1, 30, 1, 0, 1, 30, 1);
    answered(2);
    x.go(2, 0);
    answered(4);
    x.go(4, 0);
    answered(1);
    x.go(1, 0);
    answered(3);
    x.go(3, 0);
    answered(-1);
    // 0 is less than 1, the least number of those that THINK 0
    x.become(1, 30);
    x.become(2, 14);
    x.become(3, 19);
    for (int v = 1; v <= 3; v++) x.go(v, 1);
    answered(2);
    // by the AIR of now: FOG makes the GUESSER later than the EAGER one, WIND the HOARSE one later than LATE
    again();
    voices(29, 0, 49, 1, 19, 1);
    answered(1);
    x.air(1, 1);
    answered(2);
    again();
    voices(29, 0, 50, 1, 20, 1);
    answered(1);
    x.air(2, 1);
    answered(2);
    // who shouted it, there now: alone, and as the quickest, and as one of several with the least number
    again();
    voices(0, 0, 0, 1);
    x.shout(0, 2);
    x.go(0, 1);
    x.seconds(11);
    due(x.ofShout(1, 1), 0);
    again();
    voices(0, 0, 30, 0, 20, 1);
    x.shout(1, 2);
    x.go(1, 1);
    x.seconds(11);
    due(x.ofShout(1, 1), 1);
    due(x.ofShout(1, 4), 0);
  }

  private static void isDue() {
    edge(18, NOBODY);
    // 0 more: DUE and shouted in the SECOND in which it came over
    voices(0, 0, 13, 1);
    x.shout(0, 2);
    due(x.seconds(7), 1);
    due(x.seconds(1), 2);
    counts(3, 0);
    ofShout(1, 7, 1, 1, 3, 0, 14);
    // 12 more: DUE in 19
    again();
    voices(0, 0, 29, 1);
    x.shout(0, 2);
    x.seconds(19);
    counts(3, 1);
    counts(2, 1);
    due(x.seconds(1), 2);
    due(x.ofShout(1, 0), 19);
    // it is said and thought of when it came over: what changes behind that changes nothing
    again();
    voices(0, 0, 25, 1);
    text(1, "w+m+c");
    x.shout(0, 2);
    x.seconds(8);
    x.become(1, 61);
    text(1, "0");
    airs(20, 9, 9);
    x.go(1, 0);
    x.seconds(8);
    ofShout(1, 15, 1, 0, 8, 0, 44);
    // nobody there: nothing is DUE, and it doesn't wait for one who comes later
    again();
    voices(0, 0, 30, 0);
    x.shout(0, 2);
    x.seconds(8);
    counts(3, 0);
    x.go(1, 1);
    due(x.seconds(20), 1);

    edge(18, "DUE: answers that are thought of (at most 12): by whom, a WORD, to which SHOUT, in which SECOND.");
    voices(0, 0, 20, 1);
    for (int i = 0; i < 14; i++) x.shout(0, 2 * i);
    x.seconds(8);
    counts(3, 12);
    due(x.seconds(3), 26);
    counts(3, 0);
    due(x.ofShout(25, 4), 11);
    due(x.ofShout(25, 3), 23);
    // those that are DUE in the SECOND itself count as long as they aren't shouted: 0 to 11 take the places of 12 and 13
    again();
    voices(0, 0, 13, 1);
    for (int i = 0; i < 14; i++) x.shout(0, 2 * i);
    due(x.seconds(8), 26);
    counts(3, 0);
    // behind the twelve there is room again
    x.shout(0, 2);
    due(x.seconds(8), 28);
  }

  private static void isShouted() {
    edge(18, SHOUTED);
    // in the order in which they were thought of, though a later one is by another VOICE
    voices(0, 0, 22, 1, 20, 1);
    x.go(2, 0);
    x.shout(0, 2);
    x.seconds(2);
    x.shout(0, 4);
    x.seconds(6);
    x.go(2, 1);
    // 2 is thought of in 7 by 1, DUE in 12; 4 in 9 by 2, DUE in 12
    due(x.seconds(4), 2);
    counts(3, 2);
    due(x.seconds(1), 4);
    ofShout(2, 12, 1, 1, 3, 0, 19);
    ofShout(3, 12, 2, 1, 5, 1, 19);
    // one that is thought of later, DUE earlier
    again();
    voices(0, 0, 29, 1, 30, 0);
    x.shout(0, 2);
    x.seconds(2);
    x.shout(0, 4);
    x.seconds(6);
    x.go(2, 1);
    due(x.seconds(3), 3);
    due(x.ofShout(2, 4), 1);
    due(x.seconds(9), 4);
    due(x.ofShout(3, 4), 0);
    due(x.ofShout(3, 0), 19);
    // what stays DUE stays whole when one ahead of it is shouted
    again();
    voices(0, 0, 30, 1, 29, 1);
    x.shout(0, 2);
    x.seconds(1);
    x.shout(0, 4);
    x.seconds(7);
    x.go(1, 0);
    due(x.seconds(1), 3);
    ofShout(2, 8, 1, 0, 3, 0, 15);
    counts(3, 1);
    due(x.seconds(12), 4);
    ofShout(3, 20, 2, 1, 5, 1, 27);
    // from the CLIFF of then, to the other one
    again();
    voices(0, 0, 20, 1);
    x.shout(0, 2);
    x.seconds(9);
    x.go(1, 0);
    x.air(0, 3);
    x.seconds(2);
    ofShout(1, 10, 1, 0, 3, 0, 13);

    edge(18, SHOUTED);
    // 40 SHOUTS: the last one is shouted, the others dropped, and not kept for later
    voices(0, 0, 20, 1);
    shouts(0, 2, 4, 6);
    x.seconds(8);
    counts(3, 3);
    for (int i = 0; i < 36; i++) x.shout(0, 1);
    due(x.seconds(3), 40);
    counts(3, 0);
    due(x.ofShout(39, 4), 0);
    x.forget();
    due(x.seconds(20), 0);
    // 40 are there already: a QUESTION still makes one DUE, which is dropped then
    again();
    voices(0, 0, 20, 1);
    for (int i = 0; i < 40; i++) x.shout(0, i == 7 ? 2 : 1);
    due(x.seconds(8), 40);
    counts(3, 1);
    due(x.seconds(3), 40);
    counts(3, 0);
  }

  private static void loose() {
    edge(19, "n (1 to 200) LOOSE SECONDS: likewise. BEYOND. STATE.");
    for (int n : new int[] {0, -1, 201, MIN, MAX}) due(x.loose(n), BEYOND);
    counts(0, 0);
    due(x.loose(1), 0);
    due(x.loose(200), 0);
    counts(0, 201);
    goTo(9800);
    due(x.loose(200), STATE);
    due(x.loose(199), 0);
    counts(0, 9999);
    due(x.loose(1), STATE);

    edge(19, ORDER);
    goTo(9999);
    for (int n : new int[] {0, 201, MAX}) due(x.loose(n), BEYOND);
    due(x.loose(1), STATE);

    edge(19, "A LOOSE SECOND: as a SECOND, but in (1) each SHOUT that comes over is heard, if a draw's rest by 10 is below what it"
      + " CARRIES (a draw for each, QUESTIONS and VERBS).");
    // by z 1 the first draw is 4310654 (see draws()), which leaves 4
    looselyCarried(1, "5", 2);
    looselyCarried(1, "4", 1);
    // by another z the draw leaves 0: 1 tenth does, 0 doesn't
    int zero = seedThatLeaves(0);
    looselyCarried(zero, "1", 2);
    looselyCarried(zero, "0", 1);
    int nine = seedThatLeaves(9);
    looselyCarried(nine, "10", 2);
    looselyCarried(nine, "9", 1);
    // by numbers: by z 1 the draws leave 4, 2, so that of two that CARRY 3 the second is heard
    again();
    voices(0, 0, 30, 1);
    text(0, "3-9");
    shouts(0, 2, 4);
    due(x.loose(9), 3);
    due(x.ofShout(2, 4), 1);
    // each that comes over is drawn for: VERBS, what nobody hears, what finds 12 DUE; nothing else is
    again();
    voices(0, 0);
    shouts(0, 1, 2);
    x.loose(7);
    counts(9, 1);
    x.loose(1);
    counts(9, next(next(1)));
    x.loose(200);
    counts(9, next(next(1)));
    again();
    voices(30, 0, 29, 1);
    for (int i = 0; i < 14; i++) x.shout(0, 2);
    x.loose(8);
    counts(3, 12);
    int z = 1;
    for (int i = 0; i < 14; i++) z = next(z);
    counts(9, z);
    // SECONDS that aren't LOOSE draw nothing
    x.seconds(20);
    counts(9, z);
    x.then(200, 0);
    counts(9, z);
  }

  private static int next(int z) { return (int) (z * 1103515245L + 12345L); }

  /** The first z by which the first draw leaves such a rest by 10. */
  private static int seedThatLeaves(int rest) {
    for (int z = 0; ; z++) if ((next(z) & 0xffffffffL) / 256 % 10 == rest) return z;
  }

  private static void looselyCarried(int z, String tenths, int want) {
    again();
    voices(0, 0, 30, 1);
    x.seed(z);
    text(0, tenths + "-9");
    x.shout(0, 2);
    due(x.carries(0, 2), Integer.parseInt(tenths));
    due(x.loose(9), want);
  }

  private static void draws() {
    edge(19, "LOST by draws: z is told (1 at first); each makes it z * 1103515245 + 12345 (an int), and gives z >>> 8.");
    counts(9, 1);
    voices(0, 0, 30, 1);
    x.shout(0, 1);
    x.loose(8);
    // 1103527590 >>> 8 is 4310654, the next z wraps
    counts(9, 1103527590);
    x.shout(0, 1);
    x.loose(8);
    counts(9, -1770082073);
    due(next(1103527590), -1770082073);
    // a z that becomes negative gives a draw without sign: -1770082073 >>> 8 is 9862832, which leaves 2
    again();
    voices(0, 0, 30, 1);
    x.seed(1103527590);
    text(0, "2-9");
    x.shout(0, 2);
    due(x.carries(0, 2), 2);
    due(x.loose(9), 1);
    again();
    voices(0, 0, 30, 1);
    x.seed(1103527590);
    text(0, "3-9");
    x.shout(0, 2);
    due(x.loose(9), 2);
  }

  private static void then() {
    edge(20, "AHEAD by n: how many are 0 SHOUTS, 1 DUE, 2 TAUGHT. BEYOND.");
    voices(0, 0, 20, 1);
    x.shout(0, 4);
    // over in 7, answered in 10, that over in 17
    int[][] rows = {{0, 1, 0, 0}, {7, 1, 0, 0}, {8, 1, 1, 0}, {10, 1, 1, 0}, {11, 2, 0, 0}, {17, 2, 0, 0}, {18, 2, 0, 1}};
    for (int[] r : rows) for (int what = 0; what < 3; what++) due(x.then(r[0], what), r[1 + what]);
    for (int what : new int[] {-1, 3, MIN, MAX}) due(x.then(0, what), BEYOND);
    for (int n : new int[] {-1, 201, MIN, MAX}) due(x.then(n, 0), BEYOND);

    edge(20, "AHEAD by n (0 to 200) SECONDS: as if so many went by (beyond SECOND 9999, too).");
    due(x.then(0, 0), 0);
    due(x.then(200, 0), 0);
    due(x.then(-1, 0), BEYOND);
    due(x.then(201, 0), BEYOND);
    goTo(9999);
    voices(0, 0, 30, 1);
    x.shout(0, 4);
    due(x.then(8, 1), 1);
    due(x.then(16, 2), 1);
    due(x.thenShout(9, 1, 0), 10007);
    due(x.thenShout(200, 1, 5), 10014);
    // nothing has gone by
    counts(0, 9999);
    counts(2, 1);
    counts(3, 0);
    due(x.taught(), 0);
    // SECONDS, not LOOSE ones: 4 tenths aren't heard, though a draw by 1103527590 would leave 2; 5 are
    again();
    voices(0, 0, 30, 1);
    x.seed(1103527590);
    text(0, "4-9");
    x.shout(0, 4);
    due(x.then(9, 0), 1);
    text(0, "5-9");
    due(x.then(9, 0), 2);
    counts(9, 1103527590);
    // twice the same, and 200 are as 200 SECONDS
    again();
    voices(60, 0, 60, 1);
    x.air(0, 5);
    x.shout(0, 4);
    due(x.then(199, 0), 29);
    due(x.then(199, 0), 29);
    due(x.then(200, 0), 29);
    due(x.seconds(199), 29);
    x.seconds(1);
    due(x.then(3, 0), 29);
    due(x.then(4, 0), 30);
  }

  private static void thenShout() {
    edge(21, "AHEAD by n: of a SHOUT (0 to 39) as by ofShout(). BEYOND. NONE: there is none such then.");
    due(x.thenShout(0, 0, 0), NONE);
    voices(0, 0, 20, 1);
    x.shout(0, 4);
    int[] of = {10, 1, 1, 5, 0, 17};
    for (int what = 0; what < 6; what++) due(x.thenShout(11, 1, what), of[what]);
    due(x.thenShout(10, 1, 0), NONE);
    due(x.thenShout(0, 0, 3), 4);
    due(x.thenShout(200, 2, 0), NONE);
    due(x.thenShout(200, 39, 0), NONE);
    for (int shout : new int[] {-1, 40, MIN, MAX}) due(x.thenShout(0, shout, 0), BEYOND);
    for (int n : new int[] {-1, 201, MIN, MAX}) due(x.thenShout(n, 0, 0), BEYOND);
    for (int what : new int[] {-1, 6, MIN, MAX}) due(x.thenShout(0, 0, what), BEYOND);
    counts(2, 1);
    again();
    voices(60, 0, 60, 1);
    x.air(0, 1);
    x.shout(0, 4);
    due(x.thenShout(200, 39, 4), 38);
    due(x.thenShout(200, 39, 0), 117);

    edge(21, ORDER);
    due(x.thenShout(201, 0, 0), BEYOND);
    due(x.thenShout(0, 0, 6), BEYOND);
    due(x.thenShout(0, 40, 0), BEYOND);
    due(x.thenShout(0, 39, 0), NONE);
  }
}
