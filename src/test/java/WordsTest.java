import java.util.NoSuchElementException;

/** Promises 1 to 13: cases and their words. */
final class WordsTest {
  private static final Class<IndexOutOfBoundsException> NO_CASE = IndexOutOfBoundsException.class;

  private WordsTest() {
  }

  static void run() {
    newObject();
    openCase();
    cross();
    cutLast();
    cancel();
    relax();
    countAndLength();
    letterAt();
    handles();
    relaxedLength();
    noSuchCase();
  }

  private static void newObject() {
    BraidCourt court = new BraidCourt();
    Check.same("1 new: caseCount", 0, court.caseCount());
    Check.same("1 new: precedentCount", 0, court.precedentCount());
    Check.same("1 new: undoCount", 0, court.undoCount());
    Check.refuses("1 new: lineCharacter(0)", NO_CASE, () -> court.lineCharacter(0));
    Check.refuses("1 new: denial", NoSuchElementException.class, court::denial);
  }

  private static void openCase() {
    BraidCourt court = new BraidCourt();
    for (int i = 0; i < 8; i++) {
      Check.same("2 openCase " + i, i, court.openCase());
      Check.same("2 a new case is empty", 0, court.wordLength(i));
      Check.same("2 a new case is undecided", false, court.isDecided(i));
    }
    Check.denies("2 ninth openCase", court, "1 8 -", court::openCase);
    Check.same("2 caseCount after the denial", 8, court.caseCount());
    court.undo();
    Check.answers("2 openCase after undo", 7, court::openCase);
  }

  private static void cross() {
    BraidCourt court = Check.court("");
    String letters = "abcdABCDabcdABCD";
    for (int i = 0; i < 16; i++) {
      Check.same("3 cross " + i, i + 1, court.cross(0, letters.charAt(i)));
    }
    Check.same("3 the word", letters, Check.word(court, 0));
    Check.denies("3 seventeenth letter", court, "1 16 -", () -> court.cross(0, 'a'));
    for (char wrong : new char[] {'e', 'E', '`', '@', ' ', 0, (char) 353, (char) 65535}) {
      Check.refuses("3 letter " + (int) wrong, IllegalArgumentException.class,
          () -> court.cross(0, wrong));
    }
    Check.refuses("3 no case before no letter", NO_CASE, () -> court.cross(1, 'e'));
    court.decide(0);
    Check.refuses("3 no letter before decided", IllegalArgumentException.class,
        () -> court.cross(0, 'e'));
    Check.denies("3 decided before full", court, "2 0 -", () -> court.cross(0, 'a'));
    Check.same("3 the word after all", letters, Check.word(court, 0));
  }

  private static void cutLast() {
    BraidCourt court = Check.court("", "aD");
    Check.same("4 cutLast", 'D', court.cutLast(1));
    Check.same("4 cutLast again", 'a', court.cutLast(1));
    Check.denies("4 empty", court, "4 1 -", () -> court.cutLast(1));
    court.decide(1);
    Check.denies("4 decided before empty", court, "2 0 -", () -> court.cutLast(1));
    Check.denies("4 empty, the other one", court, "4 0 -", () -> court.cutLast(0));
  }

  private static void cancel() {
    BraidCourt court = Check.court("abcdDCBA", "aAb", "acAC", "baABc", "aaA", "");
    int[] removed = {8, 2, 0, 4, 2, 0};
    String[] left = {"", "b", "acAC", "c", "a", ""};
    for (int i = 0; i < 6; i++) {
      Check.same("5 cancel " + i, removed[i], court.cancel(i));
      Check.same("5 word after cancel " + i, left[i], Check.word(court, i));
    }
    court.decide(1);
    court.decide(3);
    Check.denies("5 decided", court, "2 1 -", () -> court.cancel(3));
  }

  private static void relax() {
    BraidCourt court = Check.court("abA", "Aba", "abbA", "acA", "dcD", "", "aba", "BabA");
    int[] handles = {1, 1, 2, 1, 0, 0, 0, 1};
    String[] left = {"Bab", "baB", "Baab", "c", "dcD", "", "aba", "BBab"};
    for (int i = 0; i < 8; i++) {
      int number = i;
      Check.answers("6 relax " + i, handles[i], () -> court.relax(number));
      Check.same("6 word after relax " + i, left[i], Check.word(court, i));
    }
    court.decide(0);
    Check.denies("6 decided", court, "2 0 -", () -> court.relax(0));
    relaxTooLong();
  }

  private static void relaxTooLong() {
    BraidCourt court = Check.court("abCdCbA", "AbcDcBBadC", "AbCdbaCBAaC");
    Check.answers("6 relaxed to 11 letters", "BaCBDcdBcab",
        () -> court.relax(0) > 0 ? Check.word(court, 0) : "nothing");
    Check.answers("6 relaxed to 16 letters", "CbaDcBdcDBCaBDcd",
        () -> court.relax(1) > 0 ? Check.word(court, 1) : "nothing");
    Check.denies("6 relaxed to 19 letters", court, "5 11 -", () -> court.relax(2));
    Check.same("6 word after the denial", "AbCdbaCBAaC", Check.word(court, 2));
    court.decide(2);
    Check.denies("6 decided before too long", court, "2 0 -", () -> court.relax(2));
  }

  private static void countAndLength() {
    BraidCourt court = Check.court("abc", "");
    Check.same("7 caseCount", 2, court.caseCount());
    Check.same("8 wordLength", 3, court.wordLength(0));
    Check.same("8 wordLength of an empty word", 0, court.wordLength(1));
  }

  private static void letterAt() {
    BraidCourt court = Check.court("aD");
    Check.same("9 letterAt 0", 'a', court.letterAt(0, 0));
    Check.same("9 letterAt 1", 'D', court.letterAt(0, 1));
    for (int position : new int[] {-1, 2, 16, Integer.MIN_VALUE, Integer.MAX_VALUE}) {
      Check.refuses("9 position " + position, NoSuchElementException.class,
          () -> court.letterAt(0, position));
    }
    Check.refuses("9 no case before no position", NO_CASE, () -> court.letterAt(1, -1));
  }

  private static void handles() {
    handle("abA", 0, 2);
    handle("aA", 0, 1);
    handle("bacA", 1, 3);
    handle("acbdA", 0, 4);
    handle("bcdB", 0, 3);
    handle("bdaAB", 2, 3);
    handle("bdB", 0, 2);
    handle("aabA", 1, 3);
    handle("dabcD", -1, -1);
    handle("daaaD", 0, 4);
    handle("baB", -1, -1);
    handle("cbC", -1, -1);
    handle("aba", -1, -1);
    handle("", -1, -1);
    handle("abaBcCA", 4, 5);
    handle("aBbA", 1, 2);
  }

  private static void handle(String word, int begin, int end) {
    BraidCourt court = Check.court(word);
    boolean some = begin >= 0;
    Check.same("10 hasHandle " + word, some, court.hasHandle(0));
    if (some) {
      Check.answers("11 handleBegin " + word, begin, () -> court.handleBegin(0));
      Check.answers("12 handleEnd " + word, end, () -> court.handleEnd(0));
    } else {
      Check.refuses("11 handleBegin " + word, NoSuchElementException.class,
          () -> court.handleBegin(0));
      Check.refuses("12 handleEnd " + word, NoSuchElementException.class,
          () -> court.handleEnd(0));
    }
  }

  private static void relaxedLength() {
    BraidCourt court = Check.court("abA", "abBA", "aBaBCDDDCCbbbAba", "aba", "");
    int[] lengths = {3, 0, 40, 3, 0};
    for (int i = 0; i < 5; i++) {
      int number = i;
      Check.answers("13 relaxedLength " + i, lengths[i], () -> court.relaxedLength(number));
    }
    Check.same("13 the case does not change", "abA", Check.word(court, 0));
    court.decide(0);
    Check.answers("13 relaxedLength of a decided case", 3, () -> court.relaxedLength(0));
  }

  private static void noSuchCase() {
    BraidCourt court = Check.court("abA", "a");
    for (int number : new int[] {-1, 2, 8, Integer.MIN_VALUE, Integer.MAX_VALUE}) {
      Check.refuses("3 cross", NO_CASE, () -> court.cross(number, 'a'));
      Check.refuses("4 cutLast", NO_CASE, () -> court.cutLast(number));
      Check.refuses("5 cancel", NO_CASE, () -> court.cancel(number));
      Check.refuses("6 relax", NO_CASE, () -> court.relax(number));
      Check.refuses("8 wordLength", NO_CASE, () -> court.wordLength(number));
      Check.refuses("9 letterAt", NO_CASE, () -> court.letterAt(number, 0));
      Check.refuses("10 hasHandle", NO_CASE, () -> court.hasHandle(number));
      Check.refuses("11 handleBegin", NO_CASE, () -> court.handleBegin(number));
      Check.refuses("12 handleEnd", NO_CASE, () -> court.handleEnd(number));
      Check.refuses("13 relaxedLength", NO_CASE, () -> court.relaxedLength(number));
    }
    Check.refuses("no denial by other exceptions", NoSuchElementException.class, court::denial);
    Check.same("no change by exceptions", 6, court.undoCount());
  }
}
