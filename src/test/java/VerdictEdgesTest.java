import java.util.NoSuchElementException;

/** Verdicts, precedents and appeals at their edges: each method tests one sentence. */
final class VerdictEdgesTest {
  private static final Class<NoSuchElementException> NO_ELEMENT = NoSuchElementException.class;

  private VerdictEdgesTest() {
  }

  static void run() {
    writheOfTwoIsFreed();
    writheOfMoreIsTangled();
    otherPermutationIsTangled();
    decidedTwice();
    verdictOfThePrecedent();
    eightPrecedents();
    oneForAll();
    appealOfAnUndecidedCase();
    oneAppeal();
    appealByAnotherCase();
    appealSucceedsIfGreater();
    appealFailsIfTrivial();
    appealFailsIfLess();
    appealTurnsItsCasesOnly();
    appealTurnsBothWays();
    appealIsUndone();
    undecidedAtFirst();
    precedentOfUndecided();
    noPrecedentFound();
    foundAndUnchanged();
    countsOfCases();
    meanOfNone();
    means();
    shareOfNone();
    shares();
    consistent();
    consistentWithUndecidedCases();
  }

  private static void verdict(String word, boolean tangled) {
    BraidCourt court = Check.court("d", word);
    Check.answers("25 decide " + word, tangled, () -> court.decide(1));
    Check.same("27 isDecided " + word, true, court.isDecided(1));
    Check.same("28 isTangled " + word, tangled, court.isTangled(1));
    Check.same("31 precedentCount " + word, 1, court.precedentCount());
    Check.same("29 precedentOf " + word, 0, court.precedentOf(1));
    Check.same("32 isAppealed " + word, false, court.isAppealed(0));
    Check.same("25 the word stays " + word, word, Check.word(court, 1));
    Check.same("27 the other case " + word, false, court.isDecided(0));
  }

  /** "tangled if ... the absolute value of its writhe is greater than 2, and freed otherwise". */
  private static void writheOfTwoIsFreed() {
    for (String word : new String[] {"", "aA", "aa", "AA", "dd", "DD", "abABabABabAB", "aaBB",
        "abBA", "aaaA", "aabbCC", "DDCCbb", "abcCBA"}) {
      verdict(word, false);
    }
  }

  /** With the identity as its permutation, a word's writhe is even: 4 is the next one. */
  private static void writheOfMoreIsTangled() {
    for (String word : new String[] {"aaaa", "AAAA", "aabb", "AABB", "ccdd", "ababab", "BABABA",
        "aaaaaaaaaaaaaaaa", "DDDDDDDDDDDDDDDD", "aaaaaA", "DDDDDd", "acac", "abba",
        "ABBA"}) {
      verdict(word, true);
    }
  }

  /** "tangled if its permutation is not the identity", however small its writhe is. */
  private static void otherPermutationIsTangled() {
    for (String word : new String[] {"a", "b", "c", "d", "A", "D", "abAB", "ab", "aB", "ac", "aC",
        "aba", "ABA", "aaa", "AAA", "abcd", "aBcD", "bC", "dcDC", "ad"}) {
      verdict(word, true);
    }
  }

  /** "Throws UnsupportedOperationException if denied: 2". */
  private static void decidedTwice() {
    Still.Past past = () -> {
      BraidCourt court = Still.busyWithText("a", "", "b", "A");
      court.decide(2);
      court.decide(1);
      return court;
    };
    Still.denies("25 the case of precedent 0", "2 0 -", past, c -> c.decide(2));
    Still.denies("25 the case of precedent 1", "2 1 -", past, c -> c.decide(1));
  }

  /** "If there is one, the case gets the verdict of the precedent and rests on it." */
  private static void verdictOfThePrecedent() {
    BraidCourt court = Check.court("aba", "bab", "", "aA", "bab", "abaBAB");
    Check.answers("25 aba", true, () -> court.decide(0));
    Check.answers("25 bab", true, () -> court.decide(1));
    Check.answers("26 appeal", 2, () -> court.appeal(0));
    Check.answers("25 bab after the appeal", false, () -> court.decide(4));
    Check.same("29 it rests on it", 0, court.precedentOf(4));
    Check.same("31 no other precedent", 1, court.precedentCount());
    Check.answers("25 the empty word", false, () -> court.decide(2));
    Check.answers("25 a trivial word", false, () -> court.decide(3));
    Check.answers("25 another trivial word", false, () -> court.decide(5));
    Check.same("31 one more precedent", 2, court.precedentCount());
    Check.same("33 casesOn it", 3, court.casesOn(1));
  }

  /** "Precedents are numbered from 0 in the order in which they were made": up to eight. */
  private static void eightPrecedents() {
    BraidCourt court = Check.court("a", "b", "c", "d", "A", "B", "C", "");
    int[] order = {3, 1, 7, 0, 6, 5, 2, 4};
    for (int i = 0; i < 8; i++) {
      Check.same("31 precedentCount", i, court.precedentCount());
      court.decide(order[i]);
      Check.same("29 precedentOf", i, court.precedentOf(order[i]));
      Check.same("33 casesOn", 1, court.casesOn(i));
      Check.same("32 isAppealed", false, court.isAppealed(i));
      int number = order[i];
      Check.answers("30 findPrecedent", i, () -> court.findPrecedent(number));
    }
    Check.same("31 eight precedents", 8, court.precedentCount());
    Check.answers("26 appeal against the last but one", 1, () -> court.appeal(2));
    Check.same("32 isAppealed", true, court.isAppealed(6));
    Check.refuses("32 there is no ninth", IndexOutOfBoundsException.class,
        () -> court.isAppealed(8));
    Check.refuses("33 there is no ninth", IndexOutOfBoundsException.class,
        () -> court.casesOn(8));
  }

  /** "the precedent and all cases that rest on it get the other verdict": all eight cases. */
  private static void oneForAll() {
    BraidCourt court = Check.court("aba", "bab", "aba", "bab", "abaaA", "babbB", "cCaba", "aba");
    for (int i = 0; i < 8; i++) {
      int number = i;
      Check.answers("25 decide " + i, true, () -> court.decide(number));
      Check.same("33 casesOn " + i, i + 1, court.casesOn(0));
    }
    Check.same("35 all are tangled", 8, court.tangledCount());
    Check.answers("26 appeal", 8, () -> court.appeal(7));
    Check.same("35 none is tangled", 0, court.tangledCount());
    Check.same("34 all are decided", 8, court.decidedCount());
    Check.answers("37 all are freed", 1.0f, court::freedShare);
  }

  /** "Denial 3: the case is undecided; the detail is its number." */
  private static void appealOfAnUndecidedCase() {
    Still.denies("26 without precedents", "3 0 -", () -> Still.busyWithText("a"),
        c -> c.appeal(0));
    Still.Past past = () -> {
      BraidCourt court = Still.busyWithText("a", "b", "a");
      court.decide(0);
      court.appeal(0);
      return court;
    };
    Still.denies("26 with an equal precedent", "3 2 -", past, c -> c.appeal(2));
  }

  /** "There can be one appeal against a precedent": also if it did not succeed. */
  private static void oneAppeal() {
    Still.Past past = () -> {
      BraidCourt court = Still.busyWithText("", "a", "A");
      court.decide(1);
      court.decide(2);
      court.decide(0);
      court.appeal(1);
      court.appeal(2);
      court.appeal(0);
      return court;
    };
    Still.denies("26 after one that succeeded", "6 0 -", past, c -> c.appeal(1));
    Still.denies("26 after one that did not", "6 1 -", past, c -> c.appeal(2));
    Still.denies("26 of the trivial braid", "6 2 -", past, c -> c.appeal(0));
  }

  /** "Denial 6: there was an appeal against the precedent", by whichever case. */
  private static void appealByAnotherCase() {
    Still.Past past = () -> {
      BraidCourt court = Still.busyWithText("b", "aba", "bab");
      court.decide(0);
      court.decide(1);
      court.decide(2);
      court.appeal(1);
      return court;
    };
    Still.denies("26 by another case", "6 1 -", past, c -> c.appeal(2));
    BraidCourt court = past.make();
    Check.answers("26 against the other precedent", 1, () -> court.appeal(0));
  }

  private static void appealOf(String word, int due) {
    BraidCourt court = Check.court(word);
    boolean tangled = court.decide(0);
    Check.answers("26 appeal of " + word, due, () -> court.appeal(0));
    Check.same("28 after the appeal of " + word, (due > 0) != tangled, court.isTangled(0));
    Check.same("32 after the appeal of " + word, true, court.isAppealed(0));
  }

  /** "It succeeds if the trivial braid is less than the braid of the precedent." */
  private static void appealSucceedsIfGreater() {
    for (String word : new String[] {"a", "b", "c", "d", "aa", "dd", "Baab", "DDDDc", "BBBBa",
        "abA", "aB"}) {
      appealOf(word, 1);
    }
  }

  /** "0 if the appeal does not succeed": the trivial braid is not less than itself. */
  private static void appealFailsIfTrivial() {
    for (String word : new String[] {"", "aA", "abaBAB", "acAC"}) {
      appealOf(word, 0);
    }
  }

  /** "0 if the appeal does not succeed": the braid is less than the trivial one. */
  private static void appealFailsIfLess() {
    for (String word : new String[] {"A", "B", "C", "D", "AA", "DD", "bAAB", "ddddC", "bbbbA",
        "aBA"}) {
      appealOf(word, 0);
    }
  }

  /** Cases that rest on other precedents, and undecided ones, do not change. */
  private static void appealTurnsItsCasesOnly() {
    BraidCourt court = Check.court("aba", "a", "bab", "aa", "aba", "A");
    for (int number : new int[] {1, 0, 2, 3, 5}) {
      court.decide(number);
    }
    Check.answers("26 appeal", 2, () -> court.appeal(2));
    boolean[] tangled = {false, true, false, false, false, true};
    boolean[] appealed = {false, true, false, false};
    for (int i = 0; i < 6; i++) {
      Check.same("28 isTangled " + i, tangled[i], court.isTangled(i));
      Check.same("27 isDecided " + i, i != 4, court.isDecided(i));
    }
    for (int i = 0; i < 4; i++) {
      Check.same("32 isAppealed " + i, appealed[i], court.isAppealed(i));
    }
  }

  /** "get the other verdict": tangled cases are freed, and freed ones tangled. */
  private static void appealTurnsBothWays() {
    BraidCourt court = Check.court("a", "aa");
    court.decide(0);
    court.decide(1);
    Check.answers("26 a tangled one", 1, () -> court.appeal(0));
    Check.same("28 it is freed", false, court.isTangled(0));
    Check.answers("26 a freed one", 1, () -> court.appeal(1));
    Check.same("28 it is tangled", true, court.isTangled(1));
    court.writeCase(0);
    Check.same("42 freed", "a:f", Check.line(court, 3));
    court.writeCase(1);
    Check.same("42 tangled", "aa:t", Check.line(court, 4));
  }

  /** An appeal that is undone or not in the snapshot never was. */
  private static void appealIsUndone() {
    BraidCourt court = Check.court("a");
    court.decide(0);
    court.saveSnapshot();
    court.appeal(0);
    court.undo();
    Check.same("32 undone", false, court.isAppealed(0));
    Check.answers("26 again after undo", 1, () -> court.appeal(0));
    court.restoreSnapshot();
    Check.same("32 restored", false, court.isAppealed(0));
    Check.same("28 restored", true, court.isTangled(0));
    Check.answers("26 again after restore", 1, () -> court.appeal(0));
    Check.denies("26 and no more", court, "6 0 -", () -> court.appeal(0));
  }

  /** "It is undecided, tangled or freed, and initially undecided." */
  private static void undecidedAtFirst() {
    BraidCourt court = Check.court("aaaa", "");
    for (int i = 0; i < 2; i++) {
      Check.same("27 undecided", false, court.isDecided(i));
      Check.same("28 not tangled", false, court.isTangled(i));
    }
    court.decide(0);
    court.decide(1);
    Check.same("28 tangled", true, court.isTangled(0));
    Check.same("28 freed", false, court.isTangled(1));
    Check.same("27 decided", true, court.isDecided(0));
    Check.same("27 freed is decided", true, court.isDecided(1));
    court.undo();
    Check.same("27 undecided after undo", false, court.isDecided(1));
  }

  /** "Throws NoSuchElementException if the case is undecided". */
  private static void precedentOfUndecided() {
    Still.Past past = () -> {
      BraidCourt court = Still.busyWithText("a", "a");
      court.decide(0);
      return court;
    };
    Still.refuses("29 undecided", NO_ELEMENT, past, c -> c.precedentOf(1));
    Check.answers("29 decided", 0, () -> past.make().precedentOf(0));
  }

  /** "Throws NoSuchElementException if there is no such precedent". */
  private static void noPrecedentFound() {
    Still.refuses("30 without precedents", NO_ELEMENT, () -> Still.busyWithText("a", "a"),
        c -> c.findPrecedent(0));
    Still.Past past = () -> {
      BraidCourt court = Still.busyWithText("a", "A", "aa");
      court.decide(0);
      return court;
    };
    Still.refuses("30 of the inverse", NO_ELEMENT, past, c -> c.findPrecedent(1));
    Still.refuses("30 of another braid", NO_ELEMENT, past, c -> c.findPrecedent(2));
    BraidCourt court = Check.court("a", "a");
    court.decide(0);
    court.undo();
    Check.refuses("30 of one that is undone", NO_ELEMENT, () -> court.findPrecedent(1));
  }

  /** "the precedent on which a case would rest if it was decided now; the case does not change". */
  private static void foundAndUnchanged() {
    BraidCourt court = Check.court("", "a", "aba", "bab", "cCa");
    court.decide(0);
    court.decide(1);
    court.decide(2);
    String before = Still.look(court);
    int[] found = {0, 1, 2, 2, 1};
    for (int i = 0; i < 5; i++) {
      int number = i;
      Check.answers("30 findPrecedent " + i, found[i], () -> court.findPrecedent(number));
    }
    Check.same("30 no case changes", before, Still.look(court));
    court.appeal(2);
    Check.answers("30 after an appeal", 2, () -> court.findPrecedent(3));
  }

  /** "Returns the number of cases": decided and tangled ones, from 0 to 8. */
  private static void countsOfCases() {
    BraidCourt court = Check.court("a", "", "b", "aa", "A", "DD", "B", "C");
    int[] tangled = {0, 1, 1, 2, 2, 3, 3, 4, 5};
    for (int i = 0; i <= 8; i++) {
      Check.same("34 decidedCount", i, court.decidedCount());
      Check.same("35 tangledCount", tangled[i], court.tangledCount());
      if (i < 8) {
        court.decide(i);
      }
    }
    court.undo();
    Check.same("34 decidedCount after undo", 7, court.decidedCount());
    Check.same("35 tangledCount after undo", 4, court.tangledCount());
    BraidCourt all = Check.court("a", "b", "c", "d", "A", "B", "C", "D");
    for (int i = 0; i < 8; i++) {
      all.decide(i);
    }
    Check.same("35 all are tangled", 8, all.tangledCount());
    Check.answers("37 none is freed", 0.0f, all::freedShare);
  }

  /** "Throws ArithmeticException if there are no cases". */
  private static void meanOfNone() {
    Still.refuses("36 no cases", ArithmeticException.class, BraidCourt::new,
        BraidCourt::meanLength);
    Check.answers("36 one empty case", 0.0, () -> Check.court("").meanLength());
    BraidCourt court = Check.court("");
    court.undo();
    Check.refuses("36 no cases after undo", ArithmeticException.class, court::meanLength);
  }

  /** "the sum converted to double, divided by their number converted to double". */
  private static void means() {
    Check.answers("36 a third", 1.0 / 3.0, () -> Check.court("a", "", "").meanLength());
    Check.answers("36 five sixths", 5.0 / 6.0,
        () -> Check.court("a", "", "", "abc", "", "d").meanLength());
    Check.answers("36 a seventh", 1.0 / 7.0,
        () -> Check.court("", "", "", "", "", "", "D").meanLength());
    String full = "abcdabcdabcdabcd";
    Check.answers("36 sixteen", 16.0,
        () -> Check.court(full, full, full, full, full, full, full, full).meanLength());
    Check.answers("36 one of eight", 2.0,
        () -> Check.court(full, "", "", "", "", "", "", "").meanLength());
  }

  /** "Throws ArithmeticException if no case is decided". */
  private static void shareOfNone() {
    Still.refuses("37 no cases", ArithmeticException.class, BraidCourt::new,
        BraidCourt::freedShare);
    Still.refuses("37 no decided case", ArithmeticException.class,
        () -> Still.busyWithText("a", "", "b"), BraidCourt::freedShare);
    BraidCourt court = Check.court("");
    court.decide(0);
    Check.answers("37 one decided case", 1.0f, court::freedShare);
    court.undo();
    Check.refuses("37 none after undo", ArithmeticException.class, court::freedShare);
  }

  /** "the share of decided cases that are freed, both numbers converted to float". */
  private static void shares() {
    BraidCourt court = Check.court("a", "", "b", "aa", "c", "d", "A", "B");
    float[] shares = {0.0f, 1.0f / 2.0f, 1.0f / 3.0f, 2.0f / 4.0f, 2.0f / 5.0f, 2.0f / 6.0f,
        2.0f / 7.0f, 2.0f / 8.0f};
    for (int i = 0; i < 8; i++) {
      court.decide(i);
      Check.answers("37 freedShare of " + (i + 1), shares[i], court::freedShare);
    }
  }

  /** "Returns whether all this is true": without cases, with one, with eight. */
  private static void consistent() {
    Check.answers("38 no cases", true, () -> new BraidCourt().isConsistent());
    Check.answers("38 one case", true, () -> Check.court("abA").isConsistent());
    BraidCourt court = Check.court("aba", "bab", "abA", "AbcDcBBadC", "aBaBCDDDCCbbbAba",
        "ABAAAAbcDccccBba", "", "acAC");
    Check.answers("38 eight cases", true, court::isConsistent);
    for (int i = 0; i < 8; i++) {
      court.decide(i);
    }
    Check.answers("38 eight decided cases", true, court::isConsistent);
    court.appeal(0);
    Check.answers("38 after an appeal", true, court::isConsistent);
  }

  /** "equal braids of decided cases": one that is undecided breaks nothing. */
  private static void consistentWithUndecidedCases() {
    BraidCourt court = Check.court("aba", "c", "bab", "aba");
    court.decide(2);
    Check.answers("38 undecided ones on both sides", true, court::isConsistent);
    court.decide(0);
    court.appeal(0);
    Check.answers("38 an undecided one behind", true, court::isConsistent);
    court.decide(3);
    Check.answers("38 all are decided", true, court::isConsistent);
  }
}
