/** Edges of the promises 15 to 17: THE TAPE, TEXTS, what they give. */
final class TextEdges extends Edges {
  private static final String FAULT = "FAULT: the place of the first byte with which no TEXT, however long, goes on;"
    + " how many there are, if it ends too early.";

  static void all() {
    feed();
    text();
    grammar();
    faults();
    law();
    values();
  }

  private static void feed() {
    edge(15, "The n lowest bytes (1 .. 8) of a word, the lowest first, come to THE TAPE: how many there are. BEYOND. FULL.");
    for (int n : new int[] {0, 9, -1, MIN, MAX}) due(x.feed(0x31L, n), BEYOND);
    counts(6, 0);
    // "w-f" lies lowest; what lies above doesn't come
    due(x.feed(0x7a7a7a7a7a662d77L, 3), 3);
    due(x.text(0), 1);
    due(x.law(0, 5, 3, 0, 0), 2);
    // eight bytes, the highest of which makes the word negative
    due(x.feed(0xF72b312b312b312bL, 8), 8);
    due(x.text(0), -10);
    due(x.feed(0xF7312b312b312b31L, 8), 8);
    due(x.text(0), -17);
    due(x.feed(0x312b312b312b312bL, 7), 7);
    due(x.text(0), -10);
    due(x.feed(0x31L, 1), 1);
    due(x.feed(0x2bL, 1), 2);
    due(x.feed(0x3232L, 2), 4);
    due(x.text(0), 1);
    due(x.law(0, 0, 0, 0, 0), 10);
    due(x.feed(0L, 1), 1);
    due(x.text(0), -10);

    edge(15, "TEXTS are read from THE TAPE (bytes, at most 50):");
    for (int i = 1; i <= 6; i++) due(x.feed(0x2b312b312b312b31L, 8), 8 * i);
    due(x.feed(0x313131L, 3), FULL);
    counts(6, 48);
    due(x.feed(0x31L, 1), 49);
    due(x.feed(0x3131L, 2), FULL);
    due(x.feed(0x32L, 1), 50);
    due(x.feed(0x31L, 1), FULL);
    due(x.feed(0x31L, 8), FULL);
    counts(6, 50);
    due(x.text(0), 1);
    // 24 ones and a 12: 36 in all
    counts(6, 0);
    text(1, "w");
    due(x.law(0, 0, 0, 0, 0), 10);
    for (int i = 1; i <= 6; i++) x.feed(0x2b312b312b312b31L, 8);
    x.feed(0x3231L, 2);
    due(x.text(1), 1);
    due(x.law(1, 0, 0, 0, 0), 36);

    edge(15, ORDER);
    for (int i = 0; i < 50; i++) x.feed(0x31L, 1);
    due(x.feed(0x31L, 9), BEYOND);
    due(x.feed(0x31L, 0), BEYOND);
    due(x.feed(0x31L, 1), FULL);
  }

  private static void text() {
    edge(16, "THE TAPE, which is empty then, is the TEXT of a USE (0, 1), in place of one ahead: 1. BEYOND (THE TAPE stays)."
      + " -10 less the FAULT (no ERROR; the one ahead stays; THE TAPE is empty, too).");
    due(text(0, "3"), 1);
    counts(6, 0);
    due(x.law(0, 0, 0, 0, 0), 3);
    due(x.law(1, 0, 0, 0, 0), 1);
    due(text(0, "4"), 1);
    due(x.law(0, 0, 0, 0, 0), 4);
    due(text(1, "7"), 1);
    due(x.law(0, 0, 0, 0, 0), 4);
    due(x.law(1, 0, 0, 0, 0), 7);
    feed("8");
    for (int use : new int[] {-1, 2, MIN, MAX}) due(x.text(use), BEYOND);
    counts(6, 1);
    due(x.told(1), 4);
    feed("9");
    due(x.text(1), 1);
    // "89", the rest by 40
    due(x.law(1, 0, 0, 0, 0), 9);
    due(text(0, "5+?"), -12);
    due(text(1, "5+"), -12);
    counts(6, 0);
    due(x.law(0, 0, 0, 0, 0), 4);
    due(x.law(1, 0, 0, 0, 0), 9);
    due(x.told(1), 4);
    for (int k = 2; k <= 5; k++) due(x.told(k), 0);
  }

  private static void fine(int use, String... texts) {
    for (String t : texts) due(text(use, t), 1);
  }

  private static void fault(int place, String... texts) {
    for (String t : texts) due(text(0, t), -10 - place);
  }

  private static void gives(String t, int want) {
    due(text(0, t), 1);
    due(x.law(0, 0, 0, 0, 0), want);
  }

  private static void grammar() {
    edge(16, "T: A { | A }.");
    fine(0, "w|f", "w|f|i|k", "w&f|i&k");
    gives("1|0&0", 1);
    gives("0&0|1", 1);
    fault(0, "|", "&w");
    fault(2, "w|", "w||f", "w|&f");

    edge(16, "A: B { & B }.");
    fine(0, "w&f", "w&f&i&k", "w<f&f=i");
    gives("2=2&3=3", 1);
    gives("1&0=0", 1);
    fault(2, "w&", "w&&f");

    edge(16, "B: S, or S < S, S = S, S > S.");
    fine(0, "w<f", "w=f", "w>f", "(w<f)<i", "w<(f<i)", "w<f|f<i");
    fault(3, "w<f<i", "w<f=i", "w=f>i", "w>f<i");
    fault(4, "(w<f=i)");
    fault(2, "w<", "w=", "w>", "w==f", "w<=f", "w>=f");
    gives("1+1<3", 1);
    gives("3>1+1", 1);
    gives("2=1+1", 1);

    edge(16, "S: P { + P, - P }.");
    gives("9-3-2", 4);
    gives("9-3+2", 8);
    gives("1+2*3", 7);
    gives("2*3+1", 7);
    fault(0, "-1", "+1");
    fault(2, "w+", "w-", "w--f", "w+-f");

    edge(16, "P: Q { * Q, / Q, % Q }.");
    gives("8/2*2", 8);
    gives("2*8/2", 8);
    gives("9%5*2", 8);
    gives("2*9%5", 3);
    gives("9/2%3", 1);
    fault(2, "w*", "w/", "w%", "w**f", "w//f", "w%-f");

    edge(16, "Q: a NUMBER of 1 to 4 digits, a NAME, ! Q, ( T ).");
    fine(0, "0", "9999", "0000", "w", "f", "i", "k", "!w", "!9", "!!w", "!(w|f)", "(w)", "((w))");
    fine(1, "w", "m", "c");
    fault(4, "12345", "00000");
    fault(6, "1+12345");
    fault(1, "w1", "1w", "ww", "w!", "w(", "()", "(|w)", "(", "!", "!)");
    fault(0, ")", "m", "c", "W", "F", "a", "z", "?");
    fault(3, "(w))", "(w)f", "(w)1", "(w)(");
    fault(2, "(w", "(9", "!w!", "!w(");
    for (char c = 0; c < 256; c++) {
      again();
      boolean begins = "0123456789wfik!(".indexOf(c) >= 0;
      int alone = "!(".indexOf(c) >= 0 ? -11 : begins ? 1 : -10;
      due(text(0, "" + c), alone);
      due(text(1, "" + c), "!(".indexOf(c) >= 0 ? -11 : "0123456789wmc".indexOf(c) >= 0 ? 1 : -10);
      due(text(0, "w" + c + "f"), "|&<=>+-*/%".indexOf(c) >= 0 ? 1 : -11);
    }
    again();
    gives("!0+1", 2);
    gives("!(0+1)", 0);
    gives("!1|1", 1);
    gives("(1+2)*3", 9);
    gives("0009", 9);

    edge(16, "No blanks.");
    fault(0, " w");
    fault(1, "w ", "w +f");
    fault(2, "w+ f");
    fault(1, "1 2", "w\t", "w\n");

    edge(16, "At most 5 of ! and ( are open at once.");
    fine(0, "!!!!!w", "(((((w)))))", "!(!(!w))", "(!(!(w)))", "!!!!!w+!!!!!f", "(((((w)))))*(((((k)))))", "!!!!(w)&!!!!(f)",
      "((((!w+!f))))", "((((!w)+!f)+!i)+!k)");
    fault(5, "!!!!!!w", "((((((w", "!(!(!(w", "(((((!w", "!!!!!(w", "!!!!!!", "((((((");
    fault(8, "((((!w+!!w");
    fault(17, "(((((w)))))+((((((w");
    fault(7, "((((w+((w");
  }

  private static void faults() {
    edge(16, FAULT);
    fault(0, "");
    fault(1, "(", "!");
    fault(2, "w+", "(w");
    fault(5, "(((((", "!!!!!");
    fault(9, "(1+(2+3)+");
    // the first of several faults
    fault(1, "w?+?");
    fault(2, "w+?)");
    // a byte with which the TEXT could go on is none, though what comes behind it ends too early
    fault(4, "w<f+");
    fault(6, "w<f&f&");
    // THE TAPE's 50 bytes don't bound a TEXT: what is open at the end ends too early
    again();
    for (int i = 0; i < 25; i++) feed("w+");
    due(x.text(0), -60);
    for (int i = 0; i < 24; i++) feed("w+");
    feed("(w");
    due(x.text(0), -60);
    for (int i = 0; i < 24; i++) feed("w+");
    feed("w?");
    due(x.text(0), -59);
    // names of the other USE
    due(text(1, "w+f"), -12);
    due(text(1, "i"), -10);
    due(text(1, "m+k"), -12);
    due(text(0, "w+m"), -12);
    due(text(0, "w*(c"), -13);
  }

  private static void law() {
    edge(17, "What a USE gives with its NAMES in order as a, b, c, d. BEYOND.");
    for (int use : new int[] {-1, 2, MIN, MAX}) due(x.law(use, 0, 0, 0, 0), BEYOND);
    String[] names = {"w", "f", "i", "k"};
    for (int i = 0; i < 4; i++) {
      text(0, names[i]);
      due(x.law(0, 1, 2, 3, 4), i + 1);
    }
    String[] others = {"w", "m", "c"};
    for (int i = 0; i < 3; i++) {
      text(1, others[i]);
      due(x.law(1, 11, 12, 13, 14), i + 11);
    }
    // any numbers, whatever THE AIR and the VOICES are
    text(0, "w<0&f<0&i<0&k>0");
    due(x.law(0, MIN, -1, MIN, MAX), 1);

    edge(17, "USES: 0 AIRS, NAMES w WORD, f FOG, i WIND, k KIND; held within -10 to 10; without a TEXT 0.");
    due(x.law(0, MAX, MAX, MAX, MAX), 0);
    text(0, "w");
    int[][] held = {{10, 10}, {11, 10}, {9, 9}, {-10, -10}, {-11, -10}, {-9, -9}, {MAX, 10}, {MIN, -10}, {0, 0}};
    for (int[] h : held) due(x.law(0, h[0], 0, 0, 0), h[1]);

    edge(17, "1 ANSWERS, NAMES w WORD, m m, c CLIFF of who answers; the rest by 40 of what it gives (below 0: 0);"
      + " without a TEXT as that of w+1 would.");
    int[][] without = {{0, 1}, {38, 39}, {39, 0}, {40, 1}, {-1, 0}, {-2, 0}, {-40, 0}, {MAX, 0}, {MAX - 1, 7}, {MIN, 0}};
    for (int[] w : without) due(x.law(1, w[0], 9, 9, 9), w[1]);
    text(1, "w");
    int[][] rests = {{0, 0}, {39, 39}, {40, 0}, {79, 39}, {80, 0}, {-1, 0}, {-39, 0}, {-40, 0}, {-41, 0}, {MAX, 7}, {MIN, 0}};
    for (int[] r : rests) due(x.law(1, r[0], 9, 9, 9), r[1]);
  }

  private static void values() {
    edge(17, "Ints that wrap; / cut, % the rest that it leaves, both by 0 are 0; | & < = > ! are 1 or 0, what is not 0 being true;"
      + " all is worked out.");
    value("w+1=f", MAX, MIN, 1);
    value("w-1=f", MIN, MAX, 1);
    value("w*2", MIN, 0, 0);
    value("w*w", 65536, 0, 0);
    value("9999*9999*9999>0", 0, 0, 0);
    value("w/f", 7, 2, 3);
    value("w/f", -7, 2, -3);
    value("w/f", 7, -2, -3);
    value("w/f", -7, -2, 3);
    value("w/f=w", MIN, -1, 1);
    value("w%f", 7, 4, 3);
    value("w%f", -7, 4, -3);
    value("w%f", 7, -4, 3);
    value("w%f", MIN, -1, 0);
    value("w/f", 7, 0, 0);
    value("w%f", 7, 0, 0);
    value("w/f", MIN, 0, 0);
    value("w%f", 0, 0, 0);
    value("1+w/f*9", 5, 0, 1);
    int[][] pairs = {{0, 0}, {0, 3}, {3, 0}, {3, 5}, {5, 3}, {-1, 0}, {0, -1}, {MIN, MAX}, {MAX, MIN}, {4, 4}};
    for (int[] p : pairs) {
      int a = p[0];
      int b = p[1];
      value("w|f", a, b, a != 0 || b != 0 ? 1 : 0);
      value("w&f", a, b, a != 0 && b != 0 ? 1 : 0);
      value("w<f", a, b, a < b ? 1 : 0);
      value("w=f", a, b, a == b ? 1 : 0);
      value("w>f", a, b, a > b ? 1 : 0);
      value("!w", a, b, a == 0 ? 1 : 0);
      value("!!w", a, b, a == 0 ? 0 : 1);
    }
    // what stands right of | and & is worked out and does no harm
    value("1|1/0", 0, 0, 1);
    value("0&1%0", 0, 0, 0);
  }

  private static void value(String t, int w, int f, int want) {
    again();
    due(text(0, t), 1);
    due(x.law(0, w, f, 0, 0), want);
  }
}
