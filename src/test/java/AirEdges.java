/** Edges of the promises 1 to 9: a new object, THE AIR, VOICES. */
final class AirEdges extends Edges {
  static void all() {
    newObject();
    air();
    person();
    ofVoice();
    thinks();
    carries();
    says();
    go();
    become();
    as();
  }

  private static void newObject() {
    edge(1, "All as at first; no VOICES, SHOUTS.");
    asAtFirst();
    // nothing of one object is in another
    DeafBell other = x;
    airs(3, 2, 1);
    voices(0, 0);
    x.shout(0, 2);
    x.seconds(9);
    x.seed(5);
    text(0, "1");
    feed("12");
    x.tell(1);
    x.image();
    x.voice(0, 0, 0);
    for (int s = 0; s < 4; s++) x.sheet(s, 8, 2);
    again();
    asAtFirst();
    due(other.count(0), 9);
    due(other.restore(), 9);
  }

  private static void asAtFirst() {
    for (int k = 1; k <= 5; k++) due(x.told(k), 0);
    int[] first = {0, 0, 0, 0, 7, 0, 0, 0, 0, 1};
    for (int what = 0; what < first.length; what++) counts(what, first[what]);
    due(x.taught(), 0);
    due(x.check(), 0);
    due(x.forget(), 0);
    due(x.law(0, 9, 9, 9, 9), 0);
    due(x.law(1, 9, 9, 9, 9), 10);
    due(x.told(1), 0);
    due(x.ofVoice(0, 0), BEYOND);
    due(x.shout(0, 0), BEYOND);
    due(x.ofShout(0, 0), BEYOND);
    due(x.then(200, 0), 0);
    due(x.thenShout(200, 0, 0), NONE);
    due(x.over(200), NONE);
    due(x.trace(0), NONE);
    due(x.restore(), NONE);
    for (int s = 0; s < 4; s++) due(x.lesson(s), NONE);
    due(x.text(0), -10);
  }

  private static void air() {
    edge(2, "THE AIR has DELAY (1 to 20 SECONDS; 7 at first), FOG (0 to 9; 0 at first), WIND (0 to 9; 0 at first).");
    due(x.air(0, 1), 7);
    due(x.air(0, 0), BEYOND);
    due(x.air(0, 20), 1);
    due(x.air(0, 21), BEYOND);
    due(x.air(0, -1), BEYOND);
    due(x.air(0, 20), 20);
    for (int what = 1; what <= 2; what++) {
      due(x.air(what, 9), 0);
      due(x.air(what, 10), BEYOND);
      due(x.air(what, 0), 9);
      due(x.air(what, -1), BEYOND);
      due(x.air(what, 0), 0);
    }
    edge(2, "DELAY (what 0), FOG (1), WIND (2) becomes v: what it was. BEYOND.");
    due(x.air(0, 4), 7);
    due(x.air(1, 5), 0);
    due(x.air(2, 6), 0);
    counts(4, 9);
    counts(5, 6);
    for (int what : new int[] {-1, 3, MIN, MAX}) due(x.air(what, 1), BEYOND);
    for (int what = 0; what <= 2; what++) {
      due(x.air(what, MIN), BEYOND);
      due(x.air(what, MAX), BEYOND);
      due(x.air(what, 1), 4 + what);
    }
    edge(37, "GAP: DELAY and FOG together.");
    counts(4, 7);
    airs(20, 9, 9);
    counts(4, 29);
    airs(1, 0, 9);
    counts(4, 1);
  }

  private static void person() {
    edge(3, "A VOICE (km: 10 times the KIND, and m): its number. BEYOND. FULL.");
    for (int km : new int[] {-1, 70, MIN, MAX}) due(x.person(km, 0), BEYOND);
    for (int cliff : new int[] {-1, 2, MIN, MAX}) due(x.person(0, cliff), BEYOND);
    counts(1, 0);
    due(x.person(0, 0), 0);
    due(x.person(69, 1), 1);
    due(x.person(9, 1), 2);
    due(x.person(60, 0), 3);
    int[][] of = {{0, 0, 0}, {6, 9, 1}, {0, 9, 1}, {6, 0, 0}};
    for (int v = 0; v < 4; v++) for (int what = 0; what < 3; what++) due(x.ofVoice(v, what), of[v][what]);

    edge(3, "VOICES 0, 1, .. (at most 6), of KINDS:");
    for (int v = 0; v < 6; v++) due(x.person(11 * v, v % 2), v);
    due(x.person(0, 0), FULL);
    due(x.person(69, 1), FULL);
    counts(1, 6);
    due(x.ofVoice(5, 0), 5);
    due(x.ofVoice(6, 0), BEYOND);
    // nothing frees a place
    x.forget();
    due(x.person(0, 0), FULL);

    edge(3, ORDER);
    voices(0, 0, 0, 0, 0, 0, 0, 0, 0, 0, 0, 0);
    due(x.person(70, 0), BEYOND);
    due(x.person(-1, 0), BEYOND);
    due(x.person(0, 2), BEYOND);
    due(x.person(0, -1), BEYOND);
    due(x.person(0, 0), FULL);

    edge(3, "each with a number m (0 to 9), on a CLIFF.");
    for (int m = 0; m <= 9; m++) {
      again();
      x.person(40 + m, m % 2);
      due(x.ofVoice(0, 0), 4);
      due(x.ofVoice(0, 1), m);
      due(x.ofVoice(0, 2), m % 2);
    }
  }

  private static void ofVoice() {
    edge(4, "Of a VOICE: 0 KIND, 1 m, 2 CLIFF, 3 THINKS. BEYOND.");
    due(x.ofVoice(0, 0), BEYOND);
    voices(24, 1, 0, 0);
    int[] of = {2, 4, 1, 7};
    for (int what = 0; what < 4; what++) due(x.ofVoice(0, what), of[what]);
    for (int what : new int[] {-1, 4, MIN, MAX}) due(x.ofVoice(0, what), BEYOND);
    for (int person : new int[] {-1, 2, MIN, MAX}) due(x.ofVoice(person, 0), BEYOND);
    due(x.ofVoice(1, 3), 3);
  }

  /** What a VOICE of km THINKS, if it is as foggy and windy as that. */
  private static void thinks(int km, int fog, int wind, int want) {
    x.become(0, km);
    airs(7, fog, wind);
    due(x.ofVoice(0, 3), want);
  }

  private static void thinks() {
    edge(4, "THINKS (SECONDS): PUPIL: 3.");
    voices(0, 0);
    thinks(0, 0, 0, 3);
    thinks(9, 9, 9, 3);

    edge(4, "EAGER: 3 less m, 0 at least.");
    voices(0, 0);
    for (int m = 0; m <= 9; m++) thinks(10 + m, 0, 0, new int[] {3, 2, 1, 0, 0, 0, 0, 0, 0, 0}[m]);
    thinks(13, 9, 9, 0);

    edge(4, "LATE: as PUPIL, and m.");
    voices(0, 0);
    thinks(20, 0, 0, 3);
    thinks(29, 9, 9, 12);

    edge(4, "MASTER: 1.");
    voices(0, 0);
    thinks(30, 0, 0, 1);
    thinks(39, 9, 9, 1);

    edge(4, "GUESSER: as EAGER, and 1 if FOG isn't 0.");
    voices(0, 0);
    thinks(40, 0, 9, 3);
    thinks(40, 1, 0, 4);
    thinks(43, 0, 9, 0);
    // the 0 that is the least is EAGER's: 1 comes behind it
    thinks(49, 9, 0, 1);
    thinks(44, 1, 0, 1);

    edge(4, "HOARSE: as LATE, and WIND.");
    voices(0, 0);
    thinks(50, 9, 0, 3);
    thinks(50, 0, 9, 12);
    thinks(59, 0, 9, 21);

    edge(4, "DEAF: twice as MASTER, and m.");
    voices(0, 0);
    thinks(60, 9, 9, 2);
    thinks(69, 0, 0, 11);
  }

  /** What a VOICE of km CARRIES of a QUESTION and of a VERB, by a WIND. */
  private static void carried(int km, int wind, int question, int verb) {
    x.become(0, km);
    x.air(2, wind);
    due(x.carries(0, 38), question);
    due(x.carries(0, 39), verb);
  }

  private static void carries() {
    edge(5, "CARRIES a WORD. BEYOND.");
    due(x.carries(0, 0), BEYOND);
    voices(0, 0);
    due(x.carries(0, 0), 9);
    due(x.carries(0, 39), 9);
    for (int word : new int[] {-1, 40, MIN, MAX}) due(x.carries(0, word), BEYOND);
    for (int person : new int[] {-1, 1, MIN, MAX}) due(x.carries(person, 0), BEYOND);

    edge(5, "CARRIES a WORD (tenths with which it gets over): PUPIL: 9, less WIND, if it is a VERB.");
    voices(0, 0);
    carried(0, 0, 9, 9);
    carried(9, 1, 9, 8);
    carried(0, 9, 9, 0);
    for (int word = 0; word < 40; word++) due(x.carries(0, word), word % 2 == 0 ? 9 : 0);

    edge(5, "EAGER, LATE: as PUPIL.");
    voices(0, 0);
    for (int km : new int[] {10, 19, 20, 29}) carried(km, 4, 9, 5);

    edge(5, "MASTER: 10.");
    voices(0, 0);
    carried(30, 0, 10, 10);
    carried(39, 9, 10, 10);

    edge(5, "GUESSER: as EAGER, less m by 3.");
    voices(0, 0);
    carried(40, 0, 9, 9);
    carried(43, 2, 8, 6);
    carried(49, 0, 6, 6);
    carried(49, 9, 6, 0);

    edge(5, "HOARSE: half of LATE.");
    voices(0, 0);
    carried(50, 0, 4, 4);
    carried(59, 1, 4, 4);
    carried(50, 8, 4, 0);
    carried(50, 9, 4, 0);

    edge(5, "Quotients are cut.");
    voices(0, 0);
    carried(42, 0, 9, 9);
    carried(45, 0, 8, 8);
    carried(48, 0, 7, 7);
    carried(50, 2, 4, 3);

    edge(5, "DEAF: as MASTER, less WIND.");
    voices(0, 0);
    carried(60, 0, 10, 10);
    carried(69, 9, 1, 1);

    airsOnce();
  }

  private static void airsOnce() {
    edge(5, "And what AIRS (a TEXT) gives, once; held within 0 to 10 at the end alone.");
    voices(0, 0);
    text(0, "5");
    carried(0, 0, 10, 10);
    // 9 - 9 - 3 is below 0, and 5 comes to that
    carried(49, 9, 10, 2);
    // half of 9, and 5, not half of what has 5 in it already
    text(0, "3");
    carried(50, 0, 7, 7);
    // 10 and 3 are held behind the WIND alone
    carried(60, 4, 9, 9);
    text(0, "0-3");
    carried(50, 8, 1, 0);
    carried(30, 9, 7, 7);
    carried(69, 9, 0, 0);
    text(0, "9999");
    carried(49, 9, 10, 7);
    carried(30, 0, 10, 10);
    text(0, "0-9999");
    carried(0, 0, 0, 0);
    carried(30, 0, 0, 0);
    // the WORD, FOG, WIND, KIND of now
    text(0, "w-f*100-i*1000-k*9000");
    airs(7, 0, 0);
    x.become(0, 0);
    due(x.carries(0, 1), 10);
    x.air(1, 1);
    due(x.carries(0, 1), 0);
    due(text(0, "k=5&i=2&f=1&w=3"), 1);
    x.air(2, 2);
    x.become(0, 50);
    due(x.carries(0, 3), 4);
    due(x.carries(0, 5), 3);
  }

  private static void says() {
    edge(6, "SAYS to a WORD. BEYOND.");
    due(x.says(0, 0), BEYOND);
    voices(0, 0);
    due(x.says(0, 0), 1);
    due(x.says(0, 39), 0);
    for (int word : new int[] {-1, 40, MIN, MAX}) due(x.says(0, word), BEYOND);
    for (int person : new int[] {-1, 1, MIN, MAX}) due(x.says(person, 0), BEYOND);

    edge(6, "SAYS to a WORD heard: PUPIL: what ANSWERS (a TEXT) gives.");
    voices(7, 1);
    due(x.says(0, 38), 39);
    text(1, "w*100+m*10+c");
    due(x.says(0, 0), 31);
    x.go(0, 0);
    due(x.says(0, 0), 30);
    text(1, "w*10-m");
    due(x.says(0, 0), 0);
    due(x.says(0, 4), 33);

    edge(6, "EAGER, LATE, HOARSE, MASTER: as PUPIL.");
    voices(19, 1, 29, 1, 59, 1, 39, 1);
    for (int v = 0; v < 4; v++) {
      due(x.says(v, 39), 0);
      due(x.says(v, 38), 39);
    }
    text(1, "w*100+m*10+c");
    for (int v = 0; v < 4; v++) due(x.says(v, 0), 11);

    edge(6, "GUESSER: as PUPIL, and m, the rest by 40.");
    voices(40, 0, 41, 0, 49, 0);
    due(x.says(0, 38), 39);
    due(x.says(1, 38), 0);
    due(x.says(1, 37), 39);
    due(x.says(2, 38), 8);
    due(x.says(2, 39), 9);
    // PUPIL's 0, where the TEXT gives less than 0, and m comes to that
    text(1, "0-1");
    due(x.says(2, 5), 9);

    edge(6, "DEAF: the WORD itself.");
    voices(69, 1);
    text(1, "7");
    due(x.says(0, 0), 0);
    due(x.says(0, 39), 39);
  }

  private static void go() {
    edge(7, "CLIFFS 0, 1.");
    voices(0, 0);
    due(x.go(0, 2), BEYOND);
    due(x.go(0, -1), BEYOND);
    due(x.go(0, 1), 0);
    due(x.go(0, 0), 1);

    edge(7, "A VOICE goes to a CLIFF: where it was. BEYOND.");
    due(x.go(0, 0), BEYOND);
    voices(0, 0, 0, 1);
    due(x.go(0, 0), 0);
    due(x.go(0, 1), 0);
    due(x.go(0, 1), 1);
    due(x.ofVoice(0, 2), 1);
    due(x.ofVoice(1, 2), 1);
    for (int person : new int[] {-1, 2, MIN, MAX}) due(x.go(person, 0), BEYOND);
    for (int cliff : new int[] {MIN, MAX}) due(x.go(0, cliff), BEYOND);
    due(x.ofVoice(0, 2), 1);
  }

  private static void become() {
    edge(8, "A VOICE becomes one of a KIND, with m (km): the KIND that it was. BEYOND.");
    due(x.become(0, 0), BEYOND);
    voices(45, 1, 11, 0);
    due(x.become(0, 69), 4);
    for (int km : new int[] {-1, 70, MIN, MAX}) due(x.become(0, km), BEYOND);
    for (int person : new int[] {-1, 2, MIN, MAX}) due(x.become(person, 0), BEYOND);
    int[] of = {6, 9, 1, 11};
    for (int what = 0; what < 4; what++) due(x.ofVoice(0, what), of[what]);
    due(x.become(0, 0), 6);
    due(x.become(0, 9), 0);
    due(x.ofVoice(0, 1), 9);
    due(x.ofVoice(1, 0), 1);
    due(x.ofVoice(1, 1), 1);
  }

  private static void as() {
    edge(9, "0 PUPIL; 1 EAGER, 2 LATE, 3 MASTER under PUPIL; 4 GUESSER under EAGER; 5 HOARSE under LATE; 6 DEAF under MASTER;");
    voices(0, 0);
    String[] under = {"0", "01", "02", "03", "014", "025", "036"};
    for (int kind = 0; kind < 7; kind++) {
      x.become(0, 10 * kind + 9 - kind);
      for (int k = 0; k < 7; k++) due(x.as(0, k), under[kind].indexOf('0' + k) >= 0 ? 9 - kind : KIND);
    }

    edge(9, "A VOICE as one of a KIND: m. BEYOND. KIND: it isn't of that KIND, nor of one under it.");
    due(x.as(0, 0), BEYOND);
    voices(30, 0, 69, 1);
    due(x.as(0, 3), 0);
    due(x.as(1, 3), 9);
    due(x.as(0, 6), KIND);
    for (int kind : new int[] {-1, 7, MIN, MAX}) due(x.as(0, kind), BEYOND);
    for (int person : new int[] {-1, 2, MIN, MAX}) due(x.as(person, 6), BEYOND);

    edge(9, ORDER);
    voices(0, 0);
    due(x.as(1, 6), BEYOND);
    due(x.as(0, 7), BEYOND);
    due(x.as(0, 6), KIND);
  }
}
