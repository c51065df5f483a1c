import java.util.NoSuchElementException;

/** Promises 25 to 38: verdicts, precedents and appeals. */
final class VerdictsTest {
  private static final Class<IndexOutOfBoundsException> NONE = IndexOutOfBoundsException.class;

  private VerdictsTest() {
  }

  static void run() {
    decide();
    decideByPrecedent();
    appeal();
    appealFails();
    queries();
    findPrecedent();
    means();
    isConsistent();
    noSuchNumber();
  }

  private static void decide() {
    verdict("", false);
    verdict("a", true);
    verdict("aa", false);
    verdict("AA", false);
    verdict("aabb", true);
    verdict("AABB", true);
    verdict("aaBB", false);
    verdict("aaaA", false);
    verdict("abAB", true);
    verdict("ddDDDDDD", true);
    verdict("ababab", true);
    verdict("abBA", false);
    BraidCourt court = Check.court("a");
    court.decide(0);
    Check.denies("25 decide again", court, "2 0 -", () -> court.decide(0));
  }

  private static void verdict(String word, boolean tangled) {
    BraidCourt court = Check.court(word);
    Check.answers("25 decide " + word, tangled, () -> court.decide(0));
    Check.same("25 isDecided " + word, true, court.isDecided(0));
    Check.same("25 isTangled " + word, tangled, court.isTangled(0));
    Check.same("25 the word stays " + word, word, Check.word(court, 0));
  }

  private static void decideByPrecedent() {
    BraidCourt court = Check.court("aba", "bab", "", "cC", "acAC", "ab");
    for (int i = 0; i < 6; i++) {
      court.decide(i);
    }
    int[] precedents = {0, 0, 1, 1, 1, 2};
    for (int i = 0; i < 6; i++) {
      Check.same("29 precedentOf " + i, precedents[i], court.precedentOf(i));
    }
    Check.same("31 precedentCount", 3, court.precedentCount());
    Check.same("33 casesOn 0", 2, court.casesOn(0));
    Check.same("33 casesOn 1", 3, court.casesOn(1));
    Check.same("33 casesOn 2", 1, court.casesOn(2));
  }

  private static void appeal() {
    BraidCourt court = Check.court("aba", "bab", "aba", "A");
    court.decide(0);
    court.decide(1);
    Check.denies("26 undecided", court, "3 2 -", () -> court.appeal(2));
    Check.answers("26 appeal", 2, () -> court.appeal(1));
    Check.same("26 verdict of 0", false, court.isTangled(0));
    Check.same("26 verdict of 1", false, court.isTangled(1));
    Check.same("32 isAppealed", true, court.isAppealed(0));
    Check.denies("26 again, by another case", court, "6 0 -", () -> court.appeal(0));
    Check.answers("26 a later case gets the new verdict", false, () -> court.decide(2));
    Check.same("26 it rests on the precedent", 3, court.casesOn(0));
    Check.denies("26 again, by the later case", court, "6 0 -", () -> court.appeal(2));
  }

  private static void appealFails() {
    BraidCourt court = Check.court("A", "", "aa", "Baab");
    for (int i = 0; i < 4; i++) {
      court.decide(i);
    }
    Check.answers("26 of a braid less than the trivial one", 0, () -> court.appeal(0));
    Check.same("26 its verdict stays", true, court.isTangled(0));
    Check.same("26 there was an appeal all the same", true, court.isAppealed(0));
    Check.denies("26 again", court, "6 0 -", () -> court.appeal(0));
    Check.answers("26 of the trivial braid", 0, () -> court.appeal(1));
    Check.same("26 the trivial one stays freed", false, court.isTangled(1));
    Check.answers("26 of a freed one", 1, () -> court.appeal(2));
    Check.same("26 freed gets tangled", true, court.isTangled(2));
    Check.answers("26 by the letter a, not the first one", 1, () -> court.appeal(3));
  }

  private static void queries() {
    BraidCourt court = Check.court("a", "", "b");
    Check.same("27 isDecided before", false, court.isDecided(0));
    Check.same("28 isTangled of an undecided case", false, court.isTangled(0));
    Check.refuses("29 undecided", NoSuchElementException.class, () -> court.precedentOf(0));
    Check.same("34 decidedCount before", 0, court.decidedCount());
    Check.same("35 tangledCount before", 0, court.tangledCount());
    court.decide(1);
    court.decide(0);
    Check.same("27 isDecided after", true, court.isDecided(0));
    Check.same("28 isTangled", true, court.isTangled(0));
    Check.same("28 isTangled of a freed case", false, court.isTangled(1));
    Check.answers("29 precedentOf", 1, () -> court.precedentOf(0));
    Check.same("32 isAppealed before", false, court.isAppealed(0));
    Check.same("34 decidedCount", 2, court.decidedCount());
    Check.same("35 tangledCount", 1, court.tangledCount());
    court.appeal(0);
    Check.same("35 tangledCount after an appeal", 0, court.tangledCount());
    Check.same("32 isAppealed", true, court.isAppealed(1));
    Check.same("32 isAppealed of the other", false, court.isAppealed(0));
  }

  private static void findPrecedent() {
    BraidCourt court = Check.court("aba", "bab", "a", "abaB");
    Check.refuses("30 without precedents", NoSuchElementException.class,
        () -> court.findPrecedent(0));
    court.decide(2);
    court.decide(0);
    Check.answers("30 of an undecided case", 1, () -> court.findPrecedent(1));
    Check.same("30 the case does not change", false, court.isDecided(1));
    Check.answers("30 of a decided case", 0, () -> court.findPrecedent(2));
    Check.refuses("30 of a new braid", NoSuchElementException.class,
        () -> court.findPrecedent(3));
  }

  private static void means() {
    BraidCourt court = new BraidCourt();
    Check.refuses("36 without cases", ArithmeticException.class, court::meanLength);
    Check.refuses("37 without decided cases", ArithmeticException.class, court::freedShare);
    BraidCourt other = Check.court("abc", "", "a", "aa", "A", "cc", "bb");
    Check.answers("36 meanLength", 11.0 / 7.0, other::meanLength);
    Check.refuses("37 with undecided cases only", ArithmeticException.class, other::freedShare);
    other.decide(0);
    Check.answers("37 none freed", 0.0f, other::freedShare);
    other.decide(1);
    other.decide(2);
    Check.answers("37 a third", 1.0f / 3.0f, other::freedShare);
    Check.answers("36 empty words only", 0.0, () -> Check.court("", "").meanLength());
  }

  private static void isConsistent() {
    Check.same("38 without cases", true, new BraidCourt().isConsistent());
    BraidCourt court = Check.court("aba", "bab", "abA", "AbcDcBBadC", "", "cC", "DDDD", "acAC");
    Check.same("38 undecided", true, court.isConsistent());
    for (int i = 0; i < 8; i++) {
      court.decide(i);
      Check.same("38 decided up to " + i, true, court.isConsistent());
    }
    court.appeal(1);
    Check.same("38 after an appeal", true, court.isConsistent());
    court.undo();
    Check.same("38 after undo", true, court.isConsistent());
  }

  private static void noSuchNumber() {
    BraidCourt court = Check.court("a", "b");
    court.decide(0);
    for (int number : new int[] {-1, 2, 8, Integer.MIN_VALUE, Integer.MAX_VALUE}) {
      Check.refuses("25 decide", NONE, () -> court.decide(number));
      Check.refuses("26 appeal", NONE, () -> court.appeal(number));
      Check.refuses("27 isDecided", NONE, () -> court.isDecided(number));
      Check.refuses("28 isTangled", NONE, () -> court.isTangled(number));
      Check.refuses("29 precedentOf", NONE, () -> court.precedentOf(number));
      Check.refuses("30 findPrecedent", NONE, () -> court.findPrecedent(number));
    }
    for (int precedent : new int[] {-1, 1, 8, Integer.MIN_VALUE, Integer.MAX_VALUE}) {
      Check.refuses("32 isAppealed", NONE, () -> court.isAppealed(precedent));
      Check.refuses("33 casesOn", NONE, () -> court.casesOn(precedent));
    }
  }
}
