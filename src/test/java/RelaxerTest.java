import java.util.NoSuchElementException;
import java.util.Random;

/**
 * The limits of a relaxation, 400 letters and 2000 handles, and what the calls answer behind them.
 * No word is known that a case can have and that reaches them, so that this test puts longer words
 * inside the program.
 */
final class RelaxerTest {
  private static final Class<IllegalStateException> FAILS = IllegalStateException.class;
  private static final String FAILING = "dda" + "b".repeat(133) + "Ad";
  private static final String GROWING = "ABA" + "A".repeat(17) + "bCdCddCB" + "a".repeat(17) + "ba";

  private RelaxerTest() {
  }

  static void run() {
    if (!Inside.isThere()) {
      return;
    }
    try {
      letters();
      handles();
      randomWords();
      callsOfOneCase();
      lastThatDoNotFail();
      callsOfTwoCases();
      callsThatDoNotRelax();
      pairsThatCanNotBeRelaxed();
      waysThatDisagree();
      equalBraidsOnOtherPrecedents();
    } catch (ReflectiveOperationException wrong) {
      Check.same("the inside of the program", "reached", wrong.toString());
    }
  }

  /** "A relaxation fails if a word would have more than 400 letters". */
  private static void letters() throws ReflectiveOperationException {
    relaxes("399 letters", "a" + "b".repeat(133) + "A", 133);
    relaxes("400 letters", "da" + "b".repeat(133) + "A", 133);
    relaxes("401 letters", "dda" + "b".repeat(133) + "A", -1);
    relaxes("402 letters", "ddda" + "b".repeat(133) + "A", -1);
    relaxes("more letters", "da" + "b".repeat(134) + "A", -1);
    relaxes("400 letters behind the handle", "abA" + "d".repeat(397), 1);
    relaxes("400 letters at first", "aA" + "d".repeat(398), 1);
    relaxes("letters between that stay one", "a" + "d".repeat(398) + "A", 1);
    relaxes("400 letters, some stay one", "a" + "b".repeat(50) + "d".repeat(250) + "A", 50);
  }

  /** "or if more than 2000 handles would be reduced". */
  private static void handles() throws ReflectiveOperationException {
    relaxes("1970 handles", GROWING, 1970);
    relaxes("1999 handles", GROWING + "aA".repeat(29), 1999);
    relaxes("2000 handles", GROWING + "aA".repeat(30), 2000);
    relaxes("2001 handles", GROWING + "aA".repeat(31), -1);
    relaxes("2000 handles, and more letters", GROWING + "aA".repeat(30) + "dddd", 2000);
  }

  private static void randomWords() throws ReflectiveOperationException {
    Random random = new Random(11);
    for (int i = 0; i < 40; i++) {
      StringBuilder word = new StringBuilder();
      for (int j = 10 + random.nextInt(140); j > 0; j--) {
        word.append("abcdABCD".charAt(random.nextInt(8)));
      }
      PlainCourt.Relaxation plain = PlainCourt.relaxation(word.toString());
      relaxes("random word " + i, word.toString(), plain.fails ? -1 : plain.handles);
    }
  }

  /** Expects a number of handles, or -1 if the relaxation fails. */
  private static void relaxes(String what, String word, int handles)
      throws ReflectiveOperationException {
    Object relaxer = Inside.relaxer(word);
    boolean failed = (boolean) Inside.value(relaxer, "failed");
    Check.same("relaxation fails: " + what, handles < 0, failed);
    if (handles >= 0 && !failed) {
      Check.same("handles: " + what, handles, Inside.value(relaxer, "reductions"));
      Check.same("relaxed: " + what, PlainCourt.relaxed(word), done(relaxer));
    }
  }

  private static String done(Object relaxer) throws ReflectiveOperationException {
    int[] done = (int[]) Inside.value(relaxer, "done");
    int length = (int) Inside.value(relaxer, "doneLength");
    StringBuilder word = new StringBuilder();
    for (int i = 0; i < length; i++) {
      word.append(PlainCourt.letter(Math.abs(done[i]), done[i]));
    }
    return word.toString();
  }

  /** A court whose case 1 has a word, however long. */
  private static BraidCourt court(String word) throws ReflectiveOperationException {
    BraidCourt court = Check.court("ab", "", "c");
    Inside.setWord(court, 1, Inside.letters(word));
    return court;
  }

  /** "Throws IllegalStateException if the relaxation fails", and denial 5. */
  private static void callsOfOneCase() throws ReflectiveOperationException {
    for (String word : new String[] {FAILING, GROWING + "aA".repeat(31) + "cd"}) {
      BraidCourt court = court(word);
      court.writeCase(0);
      String before = Still.look(court);
      Check.refuses("13 it fails", FAILS, () -> court.relaxedLength(1));
      Check.refuses("19 it fails", FAILS, () -> court.isTrivial(1));
      Check.refuses("43 it fails", FAILS, () -> court.writeRelaxed(1));
      Check.refuses("45 nothing is denied", NoSuchElementException.class, court::denial);
      Check.denies("6 it fails", court, "5 " + word.length() + " -", () -> court.relax(1));
      Check.same("6 all is as it was, the line too", before, Still.look(court));
      Check.answers("13 the next one does not fail", 2, () -> court.relaxedLength(0));
      Check.denies("40 it fails", court, "7 0 5", () -> Check.execute(court, "relax 1"));
    }
  }

  /** The last relaxations that do not fail: 400 letters and 2000 handles. */
  private static void lastThatDoNotFail() throws ReflectiveOperationException {
    for (String word : new String[] {FAILING.substring(2), GROWING + "aA".repeat(30)}) {
      BraidCourt court = court(word);
      int length = PlainCourt.relaxed(word).length();
      Check.answers("13 it does not fail", length, () -> court.relaxedLength(1));
      Check.answers("19 it does not fail", false, () -> court.isTrivial(1));
      Check.answers("43 it does not fail", length, () -> court.writeRelaxed(1));
      Check.same("43 the line", PlainCourt.relaxed(word), Check.line(court, length));
    }
    BraidCourt court = court("d".repeat(399) + "c");
    Check.answers("43 the longest line", 400, () -> court.writeRelaxed(1));
    Check.answers("44 its last character", 'c', () -> court.lineCharacter(399));
    Check.refuses("44 and no other", IndexOutOfBoundsException.class,
        () -> court.lineCharacter(400));
  }

  /** "Throws IllegalStateException if the relaxation fails": of the product of two words. */
  private static void callsOfTwoCases() throws ReflectiveOperationException {
    BraidCourt court = court(FAILING);
    String before = Still.look(court);
    Check.refuses("20 it fails", FAILS, () -> court.areEqual(1, 2));
    Check.refuses("20 exchanged", FAILS, () -> court.areEqual(2, 1));
    Check.refuses("22 it fails", FAILS, () -> court.compare(1, 2));
    Check.refuses("22 exchanged", FAILS, () -> court.compare(2, 1));
    Check.refuses("20 no case before it", IndexOutOfBoundsException.class,
        () -> court.areEqual(1, 3));
    Check.refuses("22 no case before it", IndexOutOfBoundsException.class,
        () -> court.compare(3, 1));
    Check.answers("20 the others", false, () -> court.areEqual(0, 2));
    Check.answers("20 a case and itself", true, () -> court.areEqual(0, 0));
    Check.same("20 all is as it was", before, Still.look(court));
  }

  /** These do without a relaxation. */
  private static void callsThatDoNotRelax() throws ReflectiveOperationException {
    BraidCourt court = court(FAILING);
    Check.answers("21 by coordinates", false, () -> court.areEqualByCoordinates(1, 2));
    // As a braid, the failing word is ddBa..abd: its letters a decide.
    Check.answers("23 by coordinates", -1, () -> court.compareByCoordinates(1, 2));
    Check.answers("24 by coordinates", 2, () -> court.caseByBraid(0));
    Check.refuses("30 by coordinates", NoSuchElementException.class,
        () -> court.findPrecedent(1));
    Check.answers("25 by coordinates", true, () -> court.decide(1));
    Check.answers("26 by coordinates", 1, () -> court.appeal(1));
  }

  /** "for all pairs of cases whose product can be relaxed": others are left out. */
  private static void pairsThatCanNotBeRelaxed() throws ReflectiveOperationException {
    Check.answers("38 two pairs fail", true, () -> court(FAILING).isConsistent());
  }

  /** "both ways to compare agree": they can not differ, but for a crossing that is none. */
  private static void waysThatDisagree() throws ReflectiveOperationException {
    for (int first = 0; first < 8; first++) {
      for (int second = first + 1; second < 8; second++) {
        BraidCourt court = Check.court("a", "b", "c", "d", "A", "B", "C", "D");
        Check.same("38 they agree", true, court.isConsistent());
        int letter = first < 4 ? first + 1 : 3 - first;
        Inside.setWord(court, second, letter, 5);
        Check.same("38 they disagree on " + first + " and " + second, false,
            court.isConsistent());
      }
    }
  }

  /** "equal braids of decided cases have the same verdict and rest on the same precedent". */
  private static void equalBraidsOnOtherPrecedents() throws ReflectiveOperationException {
    BraidCourt court = Check.court("c", "aba", "", "bab", "b");
    for (int number : new int[] {0, 1, 2, 3}) {
      court.decide(number);
    }
    Check.same("38 on the same precedent", true, court.isConsistent());
    Inside.setPrecedent(court, 3, 0);
    Check.same("38 the same verdict, another precedent", false, court.isConsistent());
    Inside.setPrecedent(court, 3, 2);
    Check.same("38 another verdict, another precedent", false, court.isConsistent());
    Inside.setPrecedent(court, 3, -1);
    Check.same("38 one is undecided", true, court.isConsistent());
    Inside.setPrecedent(court, 4, 1);
    Check.same("38 braids that are not equal", true, court.isConsistent());
  }
}
