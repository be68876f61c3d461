/** Edges of the promises 10 to 14: SHOUTS, LEAD, TAUGHT, what is forgotten. */
final class ShoutEdges extends Edges {
  static void all() {
    shout();
    ofShout();
    lead();
    taught();
    forget();
  }

  private static void shout() {
    edge(10, "A VOICE shouts a WORD now: the SHOUT's number. BEYOND. FULL.");
    due(x.shout(0, 0), BEYOND);
    voices(0, 1);
    due(x.shout(0, 0), 0);
    due(x.shout(0, 39), 1);
    for (int word : new int[] {-1, 40, MIN, MAX}) due(x.shout(0, word), BEYOND);
    for (int person : new int[] {-1, 1, MIN, MAX}) due(x.shout(person, 0), BEYOND);
    counts(2, 2);
    due(x.shout(0, 1), 2);

    edge(10, "SHOUTS 0, 1, .. (at most 40 ever):");
    voices(0, 1);
    for (int i = 0; i < 40; i++) due(x.shout(0, 39), i);
    due(x.shout(0, 39), FULL);
    // also when all of them came over long ago
    due(x.seconds(200), 40);
    due(x.shout(0, 39), FULL);
    counts(2, 40);
    due(x.ofShout(39, 0), 0);
    due(x.ofShout(40, 0), BEYOND);

    edge(10, ORDER);
    voices(0, 1);
    for (int i = 0; i < 40; i++) x.shout(0, 1);
    due(x.shout(0, 40), BEYOND);
    due(x.shout(1, 0), BEYOND);
    due(x.shout(0, 0), FULL);

    edge(10, "WORDS are told as 0 to 39: even ones are QUESTIONS, odd ones are VERBS.");
    for (int word = 0; word < 40; word++) {
      again();
      voices(0, 0, 30, 1);
      due(x.shout(0, word), 0);
      due(x.seconds(10), word % 2 == 0 ? 2 : 1);
    }

    edge(10, "By hand: a VOICE shouts a WORD (an answer to none) in SECOND.");
    voices(60, 0, 30, 1);
    x.seconds(3);
    x.shout(0, 4);
    // also the very WORD that would answer
    x.shout(1, 5);
    ofShout(0, 3, 0, 0, 4, -1, 10);
    ofShout(1, 3, 1, 1, 5, -1, 10);
    x.seconds(8);
    due(x.taught(), 0);
  }

  private static void ofShout() {
    edge(11, "Of a SHOUT: 0 SECOND, 1 by whom, 2 CLIFF, 3 WORD, 4 to which it is an answer, 5 when it comes over. BEYOND.");
    due(x.ofShout(0, 0), BEYOND);
    voices(0, 0, 0, 1);
    x.seconds(2);
    x.shout(1, 39);
    ofShout(0, 2, 1, 1, 39, -1, 9);
    for (int what : new int[] {-1, 6, MIN, MAX}) due(x.ofShout(0, what), BEYOND);
    for (int shout : new int[] {-1, 1, MIN, MAX}) due(x.ofShout(shout, 0), BEYOND);

    edge(11, "the SECOND in which, by whom (a VOICE), from which CLIFF, a WORD, to which SHOUT it is an answer (-1: none),"
      + " the SECOND in which it comes over (its SECOND and GAP of then).");
    voices(0, 0, 39, 1);
    airs(20, 9, 0);
    x.shout(0, 0);
    airs(1, 0, 0);
    x.shout(0, 38);
    // what is so later changes nothing of it
    x.go(0, 1);
    x.become(0, 69);
    x.go(1, 1);
    x.seconds(3);
    ofShout(0, 0, 0, 0, 0, -1, 29);
    ofShout(1, 0, 0, 0, 38, -1, 1);
    // an answer has its own SECOND and GAP
    ofShout(2, 2, 1, 1, 39, 1, 3);
  }

  private static void lead() {
    edge(12, "LEAD of a SHOUT: what 0 which began, 1 how many. BEYOND.");
    due(x.lead(0, 0), BEYOND);
    voices(0, 0);
    x.shout(0, 1);
    due(x.lead(0, 0), 0);
    due(x.lead(0, 1), 1);
    for (int what : new int[] {-1, 2, MIN, MAX}) due(x.lead(0, what), BEYOND);
    for (int shout : new int[] {-1, 1, MIN, MAX}) due(x.lead(shout, 0), BEYOND);

    edge(12, "LEAD of a SHOUT: the SHOUT by which all began: to which it answers, and so on, to one that answers none;"
      + " how many SHOUTS that are (1, if it answers none).");
    // two DEAF ones answer a QUESTION with itself, until there are 40
    voices(60, 0, 60, 1);
    x.air(0, 1);
    shouts(0, 1, 4, 3);
    due(x.seconds(200), 40);
    for (int s = 0; s < 3; s++) {
      due(x.lead(s, 0), s);
      due(x.lead(s, 1), 1);
    }
    for (int s = 3; s < 40; s++) {
      due(x.lead(s, 0), 1);
      due(x.lead(s, 1), s - 1);
    }
    // the longest row that can be
    again();
    voices(60, 0, 60, 1);
    x.air(0, 1);
    x.shout(0, 0);
    x.seconds(200);
    due(x.lead(39, 0), 0);
    due(x.lead(39, 1), 40);
    // two rows side by side
    again();
    voices(60, 0, 60, 1);
    shouts(0, 2, 4);
    due(x.seconds(30), 8);
    for (int s = 0; s < 8; s++) {
      due(x.lead(s, 0), s % 2);
      due(x.lead(s, 1), 1 + s / 2);
    }
  }

  private static void taught() {
    edge(13, "TAUGHT.");
    due(x.taught(), 0);
    voices(0, 0, 30, 1);
    due(x.taught(), 0);
    shouts(0, 0, 38, 7);
    x.seconds(16);
    due(x.taught(), 2);
    due(x.taught(), 2);

    String taught = "TAUGHT: how many SHOUTS are QUESTIONS to which there is a SHOUT that answers it with the WORD 1 more, and came over"
      + " (heard or not; ahead of SECOND: the SECOND in which it did is less than SECOND).";
    edge(13, taught);
    voices(0, 0, 30, 1);
    x.shout(0, 4);
    // answered in 8, over in 15
    due(x.seconds(15), 2);
    due(x.ofShout(1, 5), 15);
    due(x.taught(), 0);
    x.seconds(1);
    due(x.taught(), 1);

    edge(13, taught);
    // not heard: the answer of who is HOARSE then CARRIES 4 less what the WIND takes
    voices(0, 0, 30, 1);
    x.shout(0, 4);
    x.seconds(9);
    x.become(1, 50);
    x.air(2, 9);
    due(x.carries(1, 5), 0);
    x.seconds(7);
    due(x.taught(), 1);

    edge(13, taught);
    // another WORD: 2 more, the same, 1 less; the last QUESTION, answered with the first WORD
    String[] others = {"w+2", "w", "w-1", "0"};
    for (String other : others) {
      again();
      voices(0, 0, 30, 1);
      text(1, other);
      x.shout(0, 38);
      x.seconds(10);
      due(x.ofShout(1, 4), 0);
      x.seconds(8);
      due(x.taught(), 0);
    }
    // QUESTIONS that are answers may be taught, too: 4, then 6 by the GUESSER, then 7
    again();
    voices(30, 0, 41, 1);
    x.shout(0, 4);
    x.seconds(60);
    ofShout(1, 9, 1, 1, 6, 0, 16);
    ofShout(2, 17, 0, 0, 7, 1, 24);
    counts(2, 3);
    due(x.taught(), 1);
    // an answer to one QUESTION answers no other one of the same WORD
    again();
    voices(0, 0, 30, 1);
    x.shout(0, 4);
    x.seconds(8);
    x.go(1, 0);
    x.shout(0, 4);
    x.seconds(20);
    counts(2, 3);
    due(x.taught(), 1);
  }

  private static void forget() {
    edge(14, "All SHOUTS, all that is DUE are forgotten (numbers begin at 0 again, 40 may come): how many SHOUTS there were.");
    due(x.forget(), 0);
    voices(20, 0, 29, 1);
    shouts(0, 4, 6, 7);
    x.seconds(8);
    counts(3, 2);
    due(x.forget(), 3);
    counts(2, 0);
    counts(3, 0);
    due(x.ofShout(0, 0), BEYOND);
    due(x.forget(), 0);
    due(x.seconds(50), 0);
    due(x.taught(), 0);
    for (int i = 0; i < 40; i++) due(x.shout(0, 1), i);
    due(x.shout(0, 1), FULL);
    due(x.forget(), 40);
    due(x.shout(0, 2), 0);
    // all else stays
    counts(0, 58);
    counts(1, 2);
    // what hasn't come over yet is forgotten, too, and 12 may be DUE again
    x.forget();
    for (int i = 0; i < 12; i++) x.shout(0, 2);
    x.seconds(8);
    counts(3, 12);
    x.forget();
    for (int i = 0; i < 13; i++) x.shout(0, 2);
    x.seconds(8);
    counts(3, 12);
  }
}
