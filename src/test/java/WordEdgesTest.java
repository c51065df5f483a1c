import java.util.NoSuchElementException;

/** Cases and their words at their edges: each method tests one sentence of the document. */
final class WordEdgesTest {
  private static final Class<IllegalArgumentException> WRONG = IllegalArgumentException.class;
  private static final Class<NoSuchElementException> NO_ELEMENT = NoSuchElementException.class;
  private static final String SIXTEEN = "abcdABCDabcdABCD";

  private WordEdgesTest() {
  }

  static void run() {
    newCourt();
    eightCases();
    eightCasesAgain();
    newCaseIsEmpty();
    sixteenLetters();
    sixteenLettersAgain();
    letters();
    noSuchLetter();
    noLetterBeforeDenials();
    decidedBeforeFull();
    cutToNothing();
    cutNothing();
    cutDecidedBeforeEmpty();
    cancelNothing();
    cancelEverything();
    cancelAgainAndAgain();
    cancelOnlyNeighbours();
    relaxNothing();
    relaxToSixteen();
    relaxToMore();
    relaxOverSixteenAndBack();
    relaxDecidedBeforeTooLong();
    wordIsFixed();
    caseCounts();
    wordLengths();
    positions();
    noSuchPosition();
    relaxedLengths();
    fiveHundredAndTwelveCalls();
  }

  /** "Creates a court without cases and precedents." */
  private static void newCourt() {
    BraidCourt court = new BraidCourt();
    Check.same("1 caseCount", 0, court.caseCount());
    Check.same("1 precedentCount", 0, court.precedentCount());
    Check.same("1 decidedCount", 0, court.decidedCount());
    Check.same("1 tangledCount", 0, court.tangledCount());
    Check.same("1 undoCount", 0, court.undoCount());
    Check.same("1 isConsistent", true, court.isConsistent());
    Check.same("1 no denial", "none", Still.denial(court));
    Check.same("1 no fault position", "none", Still.fault(court));
    Still.Past past = BraidCourt::new;
    Still.refuses("1 caseByBraid", NO_ELEMENT, past, c -> c.caseByBraid(0));
    Still.refuses("1 meanLength", ArithmeticException.class, past, BraidCourt::meanLength);
    Still.refuses("1 freedShare", ArithmeticException.class, past, BraidCourt::freedShare);
    Still.refuses("1 lineCharacter", IndexOutOfBoundsException.class, past,
        c -> c.lineCharacter(0));
    Still.refuses("1 faultPosition", NO_ELEMENT, past, BraidCourt::faultPosition);
    Still.refuses("1 denial", NO_ELEMENT, past, BraidCourt::denial);
    Still.refuses("1 denialDetail", NO_ELEMENT, past, BraidCourt::denialDetail);
    Still.refuses("1 denialCause", NO_ELEMENT, past, BraidCourt::denialCause);
    Still.refuses("1 undo", IllegalStateException.class, past, BraidCourt::undo);
    Still.refuses("1 restoreSnapshot", IllegalStateException.class, past,
        BraidCourt::restoreSnapshot);
  }

  /** "Throws UnsupportedOperationException if denied: 1 (8 cases)". */
  private static void eightCases() {
    BraidCourt court = new BraidCourt();
    for (int i = 0; i < 8; i++) {
      Check.answers("2 openCase " + i, i, court::openCase);
      Check.same("2 caseCount " + i, i + 1, court.caseCount());
    }
    Still.Past past = () -> Still.busyWithText("a", "", "", "", "", "", "", "b");
    Still.denies("2 the ninth case", "1 8 -", past, BraidCourt::openCase);
  }

  /** "At most 8 cases exist": also after undo and restoreSnapshot. */
  private static void eightCasesAgain() {
    BraidCourt court = Check.court("", "", "", "", "", "", "", "");
    court.saveSnapshot();
    court.undo();
    Check.answers("2 the eighth again", 7, court::openCase);
    Check.denies("2 the ninth after undo", court, "1 8 -", court::openCase);
    court.undo();
    court.undo();
    court.restoreSnapshot();
    Check.denies("2 the ninth after restore", court, "1 8 -", court::openCase);
    Check.same("2 eight cases", 8, court.caseCount());
  }

  /** "A case has a word ..., initially empty. It is ... initially undecided." */
  private static void newCaseIsEmpty() {
    BraidCourt court = Check.court("ab", "cd");
    court.decide(1);
    for (int i = 0; i < 4; i++) {
      court.undo();
    }
    Check.answers("2 opened in the place of another", 1, court::openCase);
    Check.same("2 its word is empty", 0, court.wordLength(1));
    Check.same("2 it is undecided", false, court.isDecided(1));
    Check.same("2 it is not tangled", false, court.isTangled(1));
    Check.same("2 its line", 2, court.writeCase(1));
    Check.same("2 its line", ":?", Check.line(court, 2));
  }

  /** "Throws UnsupportedOperationException if denied: ... 1 (16 letters)". */
  private static void sixteenLetters() {
    BraidCourt court = Check.court("", "");
    for (int i = 0; i < 16; i++) {
      char letter = SIXTEEN.charAt(i);
      Check.answers("3 letter " + (i + 1), i + 1, () -> court.cross(1, letter));
    }
    Check.same("3 sixteen letters", SIXTEEN, Check.word(court, 1));
    Still.Past past = () -> Still.busyWithText("", SIXTEEN);
    for (char letter : "aAdD".toCharArray()) {
      Still.denies("3 the seventeenth, " + letter, "1 16 -", past, c -> c.cross(1, letter));
    }
    Check.answers("3 the other case is not full", 1, () -> court.cross(0, 'a'));
  }

  /** "A case has a word of at most 16 letters": again when one is gone. */
  private static void sixteenLettersAgain() {
    BraidCourt court = Check.court(SIXTEEN);
    court.cutLast(0);
    Check.answers("3 the sixteenth again", 16, () -> court.cross(0, 'b'));
    Check.denies("3 the seventeenth again", court, "1 16 -", () -> court.cross(0, 'b'));
    Check.same("3 its last letter", 'b', court.letterAt(0, 15));
  }

  /** "the letter, 'a' to 'd' or 'A' to 'D'": the first and the last ones that are allowed. */
  private static void letters() {
    BraidCourt court = Check.court("");
    int length = 0;
    for (char letter : new char[] {'a', 'b', 'c', 'd', 'A', 'B', 'C', 'D'}) {
      length++;
      Check.answers("3 cross " + letter, length, () -> court.cross(0, letter));
      Check.same("9 letterAt " + letter, letter, court.letterAt(0, length - 1));
    }
  }

  /** "Throws IllegalArgumentException if there is no such letter". */
  private static void noSuchLetter() {
    Still.Past past = () -> Still.busyWithText("ab");
    char[] wrong = {'`', 'e', '@', 'E', 0, ' ', '1', 'z', 'a' + 128, 'a' + 256, 'A' + 256,
        'a' + 32768, 'D' + 32768, 65535};
    for (char letter : wrong) {
      Still.refuses("3 letter " + (int) letter, WRONG, past, c -> c.cross(0, letter));
    }
  }

  /** The letter is documented before the denials 2 and 1. */
  private static void noLetterBeforeDenials() {
    Still.refuses("3 no letter, full", WRONG, () -> Still.busyWithText(SIXTEEN),
        c -> c.cross(0, 'e'));
    Still.Past decided = () -> {
      BraidCourt court = Still.busyWithText("ab");
      court.decide(0);
      return court;
    };
    Still.refuses("3 no letter, decided", WRONG, decided, c -> c.cross(0, '`'));
  }

  /** "if denied: 2, 1": in this order. */
  private static void decidedBeforeFull() {
    Still.Past past = () -> {
      BraidCourt court = Still.busyWithText("a", SIXTEEN);
      court.decide(1);
      return court;
    };
    Still.denies("3 decided and full", "2 0 -", past, c -> c.cross(1, 'a'));
  }

  /** "Removes the last letter of the word of a case": of sixteen, and the only one. */
  private static void cutToNothing() {
    BraidCourt court = Check.court("", SIXTEEN);
    for (int i = 15; i >= 0; i--) {
      Check.answers("4 letter " + i, SIXTEEN.charAt(i), () -> court.cutLast(1));
      Check.same("4 length after it", i, court.wordLength(1));
    }
    Check.denies("4 nothing is left", court, "4 1 -", () -> court.cutLast(1));
  }

  /** "Throws UnsupportedOperationException if denied: ... 4". */
  private static void cutNothing() {
    Still.denies("4 of the first case", "4 0 -", () -> Still.busyWithText("", "ab"),
        c -> c.cutLast(0));
    Still.denies("4 of the last case", "4 7 -",
        () -> Still.busyWithText("a", "", "", "", "", "", "", ""), c -> c.cutLast(7));
  }

  /** "if denied: 2, 4": in this order. */
  private static void cutDecidedBeforeEmpty() {
    Still.Past past = () -> {
      BraidCourt court = Still.busyWithText("ab", "");
      court.decide(1);
      return court;
    };
    Still.denies("4 decided and empty", "2 0 -", past, c -> c.cutLast(1));
  }

  /** "Returns the number of letters that are removed": none. */
  private static void cancelNothing() {
    String[] words = {"", "a", "aa", "abAB", "acA", SIXTEEN, "ABab", "dddd"};
    BraidCourt court = Check.court(words);
    for (int i = 0; i < words.length; i++) {
      int number = i;
      Check.answers("5 cancel " + words[i], 0, () -> court.cancel(number));
      Check.same("5 it stays " + words[i], words[i], Check.word(court, i));
    }
  }

  /** "Returns the number of letters that are removed": all sixteen. */
  private static void cancelEverything() {
    String[] words = {"abcdabcdDCBADCBA", "aAaAaAaAaAaAaAaA", "DddDdDDdcCCcbBBb", "Aa", "dD"};
    BraidCourt court = Check.court(words);
    for (int i = 0; i < words.length; i++) {
      int number = i;
      Check.answers("5 cancel " + words[i], words[i].length(), () -> court.cancel(number));
      Check.same("5 nothing is left of " + words[i], 0, court.wordLength(i));
      Check.denies("5 there is nothing to cut", court, "4 " + i + " -",
          () -> court.cutLast(number));
    }
  }

  /** "again and again, until there are none". */
  private static void cancelAgainAndAgain() {
    String[] words = {"caAC", "abBAc", "cabBA", "aAa", "AaA", "aaAAa", "bcaAaACBd", "daAbBcCD"};
    int[] removed = {4, 4, 4, 2, 2, 4, 8, 8};
    String[] left = {"", "c", "c", "a", "A", "a", "d", ""};
    BraidCourt court = Check.court(words);
    for (int i = 0; i < words.length; i++) {
      int number = i;
      Check.answers("5 cancel " + words[i], removed[i], () -> court.cancel(number));
      Check.same("5 left of " + words[i], left[i], Check.word(court, i));
    }
  }

  /** "Removes letters that are next to their inverses": no others, however equal the braids. */
  private static void cancelOnlyNeighbours() {
    String[] words = {"abaBAB", "acAC", "adDA", "aBcCb", "adAD", "bB", "ab", "aBbcC"};
    String[] left = {"abaBAB", "acAC", "", "a", "adAD", "", "ab", "a"};
    BraidCourt court = Check.court(words);
    for (int i = 0; i < words.length; i++) {
      court.cancel(i);
      Check.same("5 left of " + words[i], left[i], Check.word(court, i));
    }
  }

  /** "Returns the number of handles that are reduced": none, one, many. */
  private static void relaxNothing() {
    String[] words = {"", "a", "aBaBaBaBaBaBaBaB", "baB", "aA", "abA", "ABAAAAbcDccccBba"};
    int[] handles = {0, 0, 0, 0, 1, 1, 141};
    String[] left = {"", "a", "aBaBaBaBaBaBaBaB", "baB", "", "Bab", "BBBDcBCdBccccc"};
    BraidCourt court = Check.court(words);
    for (int i = 0; i < words.length; i++) {
      int number = i;
      Check.answers("6 relax " + words[i], handles[i], () -> court.relax(number));
      Check.same("6 left of " + words[i], left[i], Check.word(court, i));
    }
  }

  /** "Denial 5: the relaxed word would have more than 16 letters": sixteen are allowed. */
  private static void relaxToSixteen() {
    BraidCourt court = Check.court("CaDbcdcBbA", "BaDbCdaCCBA");
    Check.answers("6 relax to sixteen letters", 6, () -> court.relax(0));
    Check.same("6 they are sixteen", "CDCBaDCbDcdabcab", Check.word(court, 0));
    Check.denies("6 it is full", court, "1 16 -", () -> court.cross(0, 'a'));
    Check.answers("6 relax to fifteen letters", 7, () -> court.relax(1));
    Check.same("6 they are fifteen", 15, court.wordLength(1));
  }

  /** "Denial 5: ... more than 16 letters; the detail is the number of letters of the word". */
  private static void relaxToMore() {
    Still.denies("6 relax to seventeen letters", "5 11 -",
        () -> Still.busyWithText("a", "BdaBcdcbbAd"), c -> c.relax(1));
    Still.denies("6 relax to eighteen letters", "5 10 -",
        () -> Still.busyWithText("AbCCDcBcba"), c -> c.relax(0));
    Still.denies("6 relax to forty letters", "5 16 -",
        () -> Still.busyWithText("aBaBCDDDCCbbbAba"), c -> c.relax(0));
  }

  /** The relaxed word alone counts: on its way to twelve letters this word has 34. */
  private static void relaxOverSixteenAndBack() {
    BraidCourt court = Check.court("dABAAbdcDcdBaaba");
    Check.answers("6 relax by way of 34 letters", 52, () -> court.relax(0));
    Check.same("6 its word", "ddcbCdCbDCbd", Check.word(court, 0));
  }

  /** "if denied: 2, 5": in this order. */
  private static void relaxDecidedBeforeTooLong() {
    Still.Past past = () -> {
      BraidCourt court = Still.busyWithText("a", "AbCCDcBcba");
      court.decide(1);
      return court;
    };
    Still.denies("6 decided and too long", "2 0 -", past, c -> c.relax(1));
  }

  /** "A case that is decided ..., and its word does not change any more." */
  private static void wordIsFixed() {
    Still.Past past = () -> {
      BraidCourt court = Still.busyWithText("c", "aAbaB", "Ccb", "bab");
      court.decide(3);
      court.decide(1);
      court.decide(0);
      court.appeal(1);
      return court;
    };
    Still.denies("3 a decided case", "2 1 -", past, c -> c.cross(1, 'a'));
    Still.denies("4 a decided case", "2 1 -", past, c -> c.cutLast(1));
    Still.denies("5 a decided case", "2 1 -", past, c -> c.cancel(1));
    Still.denies("6 a decided case", "2 1 -", past, c -> c.relax(1));
    Still.denies("25 a decided case", "2 1 -", past, c -> c.decide(1));
    Still.denies("6 another decided case", "2 2 -", past, c -> c.relax(0));
    BraidCourt court = past.make();
    Check.answers("6 an undecided case", 1, () -> court.relax(2));
  }

  /** "Returns the number of cases": from 0 to 8. */
  private static void caseCounts() {
    BraidCourt court = new BraidCourt();
    for (int i = 0; i <= 8; i++) {
      Check.same("7 caseCount", i, court.caseCount());
      if (i < 8) {
        court.openCase();
      }
    }
    Check.denies("2 the ninth case", court, "1 8 -", court::openCase);
    Check.same("7 caseCount after the ninth", 8, court.caseCount());
    court.undo();
    Check.same("7 caseCount after undo", 7, court.caseCount());
  }

  /** "Returns the number of letters": from 0 to 16. */
  private static void wordLengths() {
    BraidCourt court = Check.court("", SIXTEEN);
    for (int i = 0; i <= 16; i++) {
      Check.same("8 wordLength", i, court.wordLength(0));
      if (i < 16) {
        court.cross(0, 'd');
      }
    }
    Check.same("8 wordLength of sixteen letters", 16, court.wordLength(1));
  }

  /** "the position, from 0": the first and the last one. */
  private static void positions() {
    BraidCourt court = Check.court(SIXTEEN, "C");
    Check.answers("9 the first", 'a', () -> court.letterAt(0, 0));
    Check.answers("9 the last of sixteen", 'D', () -> court.letterAt(0, 15));
    Check.answers("9 the only one", 'C', () -> court.letterAt(1, 0));
  }

  /** "Throws NoSuchElementException if there is no such position". */
  private static void noSuchPosition() {
    Still.Past past = () -> Still.busyWithText("", "ab", SIXTEEN);
    Still.refuses("9 of an empty word", NO_ELEMENT, past, c -> c.letterAt(0, 0));
    Still.refuses("9 too small", NO_ELEMENT, past, c -> c.letterAt(1, -1));
    Still.refuses("9 too large", NO_ELEMENT, past, c -> c.letterAt(1, 2));
    Still.refuses("9 behind sixteen letters", NO_ELEMENT, past, c -> c.letterAt(2, 16));
    BraidCourt court = past.make();
    for (int position : new int[] {256, 65536, Integer.MAX_VALUE, Integer.MIN_VALUE, -16}) {
      Check.refuses("9 position " + position, NO_ELEMENT, () -> court.letterAt(1, position));
    }
    court.cutLast(1);
    Check.refuses("9 a letter that was cut", NO_ELEMENT, () -> court.letterAt(1, 1));
    court.undo();
    Check.answers("9 and is there again", 'b', () -> court.letterAt(1, 1));
  }

  /** "Returns the number of letters of the relaxed word of a case; the case does not change." */
  private static void relaxedLengths() {
    String[] words = {"", "aA", "a", "CaDbcdcBbA", "BdaBcdcbbAd", "aBaBCDDDCCbbbAba", "abaBAB"};
    int[] lengths = {0, 0, 1, 16, 17, 40, 0};
    BraidCourt court = Check.court(words);
    court.decide(4);
    String before = Still.look(court);
    for (int i = 0; i < words.length; i++) {
      int number = i;
      Check.answers("13 of " + words[i], lengths[i], () -> court.relaxedLength(number));
    }
    Check.same("13 no case changes", before, Still.look(court));
  }

  /** "An object is used for at most 512 calls": the last of them is answered like the others. */
  private static void fiveHundredAndTwelveCalls() {
    BraidCourt court = new BraidCourt();
    court.openCase();
    for (int i = 0; i < 255; i++) {
      Check.same("3 call " + (2 * i + 2), 1, court.cross(0, 'a'));
      Check.same("4 call " + (2 * i + 3), 'a', court.cutLast(0));
    }
    Check.answers("48 call 512", 7, court::undo);
  }
}
