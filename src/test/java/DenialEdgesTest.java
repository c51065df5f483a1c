import java.util.NoSuchElementException;

/** The latest denial at its edges: each method tests one sentence of the document. */
final class DenialEdgesTest {
  private static final Class<NoSuchElementException> NONE = NoSuchElementException.class;

  private DenialEdgesTest() {
  }

  static void run() {
    nothingDenied();
    otherExceptionsDenyNothing();
    limitReached();
    caseDecided();
    caseUndecided();
    wordEmpty();
    relaxedTooLong();
    wasAppealed();
    commandFailed();
    onlyTheSeventhHasACause();
    keptUntilTheNext();
    replacedByTheNext();
  }

  private static void isNone(String what, BraidCourt court) {
    Check.refuses("45 " + what, NONE, court::denial);
    Check.refuses("46 " + what, NONE, court::denialDetail);
    Check.refuses("47 " + what, NONE, court::denialCause);
  }

  /** "Throws NoSuchElementException if nothing was denied yet". */
  private static void nothingDenied() {
    isNone("a new court", new BraidCourt());
    BraidCourt court = Check.court("abA", "");
    court.relax(0);
    court.decide(0);
    court.appeal(0);
    court.saveSnapshot();
    court.undo();
    court.restoreSnapshot();
    Check.execute(court, "open");
    isNone("nothing but answers", court);
  }

  /** Only UnsupportedOperationException is thrown for a denial. */
  private static void otherExceptionsDenyNothing() {
    BraidCourt court = Check.court("ab");
    Check.refuses("no case", IndexOutOfBoundsException.class, () -> court.cutLast(1));
    Check.refuses("no letter", IllegalArgumentException.class, () -> court.cross(0, 'e'));
    Check.refuses("no position", NONE, () -> court.letterAt(0, 2));
    Check.refuses("no text", IllegalArgumentException.class, court::execute);
    Check.refuses("no snapshot", IllegalStateException.class, court::restoreSnapshot);
    Check.refuses("no decided case", ArithmeticException.class, court::freedShare);
    Check.refuses("no fault in the denial", NONE, court::denialCause);
    isNone("other exceptions", court);
  }

  /** "Denial 1: a limit is reached; the detail is the limit." */
  private static void limitReached() {
    BraidCourt court = Check.court("", "", "", "", "", "abcdabcdabcdabcd", "", "");
    Check.denies("45 the limit of cases", court, "1 8 -", court::openCase);
    Check.denies("45 the limit of letters", court, "1 16 -", () -> court.cross(5, 'a'));
  }

  /** "Denial 2: the case is decided; the detail is the number of its precedent." */
  private static void caseDecided() {
    BraidCourt court = Check.court("", "a", "aA", "b");
    court.decide(3);
    court.decide(1);
    court.decide(2);
    court.decide(0);
    Check.denies("45 cross", court, "2 2 -", () -> court.cross(0, 'a'));
    Check.denies("45 cutLast", court, "2 1 -", () -> court.cutLast(1));
    Check.denies("45 cancel", court, "2 2 -", () -> court.cancel(2));
    Check.denies("45 relax", court, "2 0 -", () -> court.relax(3));
    Check.denies("45 decide", court, "2 1 -", () -> court.decide(1));
  }

  /** "Denial 3: the case is undecided; the detail is its number." */
  private static void caseUndecided() {
    BraidCourt court = Check.court("a", "a", "", "", "", "", "", "a");
    Check.denies("45 the first", court, "3 0 -", () -> court.appeal(0));
    court.decide(1);
    Check.denies("45 the last", court, "3 7 -", () -> court.appeal(7));
  }

  /** "Denial 4: the word is empty; the detail is the number of the case." */
  private static void wordEmpty() {
    BraidCourt court = Check.court("", "a", "", "", "", "", "", "");
    Check.denies("45 the first", court, "4 0 -", () -> court.cutLast(0));
    Check.denies("45 the last", court, "4 7 -", () -> court.cutLast(7));
    court.cutLast(1);
    Check.denies("45 one that was not empty", court, "4 1 -", () -> court.cutLast(1));
  }

  /** "Denial 5: ... the detail is the number of letters of the word of the case." */
  private static void relaxedTooLong() {
    BraidCourt court = Check.court("", "BdaBcdcbbAd", "AbCCDcBcba", "aBaBCDDDCCbbbAba");
    Check.denies("45 eleven letters", court, "5 11 -", () -> court.relax(1));
    Check.denies("45 ten letters", court, "5 10 -", () -> court.relax(2));
    Check.denies("45 sixteen letters", court, "5 16 -", () -> court.relax(3));
  }

  /** "Denial 6: there was an appeal against the precedent; the detail is its number." */
  private static void wasAppealed() {
    BraidCourt court = Check.court("a", "", "A");
    court.decide(2);
    court.decide(1);
    court.decide(0);
    court.appeal(0);
    court.appeal(1);
    Check.denies("45 precedent 2", court, "6 2 -", () -> court.appeal(0));
    Check.denies("45 precedent 1", court, "6 1 -", () -> court.appeal(1));
    court.appeal(2);
    Check.denies("45 precedent 0", court, "6 0 -", () -> court.appeal(2));
  }

  /** "Denial 7: a command of a text failed; the detail is the index of the command". */
  private static void commandFailed() {
    BraidCourt court = Check.court("");
    Check.denies("45 the first command", court, "7 0 4", () -> Check.execute(court, "cut 0"));
    Check.denies("45 the second command", court, "7 1 8",
        () -> Check.execute(court, "open;cut 2;cut 0"));
    Check.denies("45 the eighth command", court, "7 7 1",
        () -> Check.execute(court, "open;open;open;open;open;open;open;open"));
  }

  /** "Only denial 7 has a cause". */
  private static void onlyTheSeventhHasACause() {
    Still.Past past = () -> {
      BraidCourt court = Still.busyWithText("", "a", "aBaBCDDDCCbbbAba", "abcdabcdabcdabcd");
      court.decide(1);
      court.appeal(1);
      return court;
    };
    noCause(past, "1 16 -", c -> c.cross(3, 'a'));
    noCause(past, "2 0 -", c -> c.cancel(1));
    noCause(past, "3 0 -", c -> c.appeal(0));
    noCause(past, "4 0 -", c -> c.cutLast(0));
    noCause(past, "5 16 -", c -> c.relax(2));
    noCause(past, "6 0 -", c -> c.appeal(1));
    Check.answers("47 the cause of denial 7", 8, () -> past.make().denialCause());
  }

  private static void noCause(Still.Past past, String denial, Still.Refused call) {
    Still.Past denied = () -> {
      BraidCourt court = past.make();
      Check.denies("45 denial " + denial, court, denial, () -> call.call(court));
      return court;
    };
    Still.refuses("47 no cause of " + denial, NONE, denied, BraidCourt::denialCause);
  }

  /** "The number, the detail and the cause of the latest denial are kept until the next denial." */
  private static void keptUntilTheNext() {
    BraidCourt court = Check.court("a", "");
    Check.denies("45 denied", court, "7 1 4", () -> Check.execute(court, "open;cut 1"));
    court.openCase();
    court.decide(0);
    court.appeal(0);
    Check.refuses("no case", IndexOutOfBoundsException.class, () -> court.relax(5));
    Check.refuses("a wrong text", IllegalArgumentException.class, court::execute);
    Check.execute(court, "open");
    court.saveSnapshot();
    court.undo();
    court.undo();
    court.restoreSnapshot();
    court.writeCase(0);
    Check.same("45 it is kept", "7 1 4", Check.denial(court));
    Check.same("45 asking changes nothing", "7 1 4", Check.denial(court));
  }

  /** The next denial replaces all three, the cause too. */
  private static void replacedByTheNext() {
    BraidCourt court = Check.court("a", "");
    Check.denies("45 with a cause", court, "7 0 8", () -> Check.execute(court, "cut 9"));
    Check.denies("45 then without one", court, "4 1 -", () -> court.cutLast(1));
    Check.denies("45 then with another", court, "7 0 3", () -> Check.execute(court, "appeal 0"));
    Check.denies("45 the same again", court, "7 0 3", () -> Check.execute(court, "appeal 0"));
    Check.denies("45 and without", court, "3 1 -", () -> court.appeal(1));
  }
}
