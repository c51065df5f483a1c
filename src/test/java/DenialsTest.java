import java.util.NoSuchElementException;

/** Promises 45 to 47: the latest denial; what each call is denied for stands with its tests. */
final class DenialsTest {
  private static final Class<NoSuchElementException> NONE = NoSuchElementException.class;

  private DenialsTest() {
  }

  static void run() {
    nothingDenied();
    kept();
    cause();
  }

  private static void nothingDenied() {
    BraidCourt court = Check.court("ab");
    Check.refuses("no letter", IllegalArgumentException.class, () -> court.cross(0, 'x'));
    Check.refuses("no case", IndexOutOfBoundsException.class, () -> court.cross(1, 'a'));
    Check.refuses("45 nothing denied", NONE, court::denial);
    Check.refuses("46 nothing denied", NONE, court::denialDetail);
    Check.refuses("47 nothing denied", NONE, court::denialCause);
  }

  private static void kept() {
    BraidCourt court = Check.court("ab", "", "c");
    Check.denies("cut an empty word", court, "4 1 -", () -> court.cutLast(1));
    court.saveSnapshot();
    court.decide(2);
    Check.same("45 kept behind good calls", "4 1 -", Check.denial(court));
    court.undo();
    Check.same("45 kept behind undo", "4 1 -", Check.denial(court));
    court.restoreSnapshot();
    Check.same("45 kept behind restoreSnapshot", "4 1 -", Check.denial(court));
    Check.denies("the next denial", court, "3 0 -", () -> court.appeal(0));
    Check.refuses("another exception", IndexOutOfBoundsException.class, () -> court.cutLast(7));
    Check.same("45 kept behind another exception", "3 0 -", Check.denial(court));
    court.decide(2);
    court.decide(0);
    Check.denies("the detail is the precedent", court, "2 1 -", () -> court.cutLast(0));
  }

  private static void cause() {
    BraidCourt court = Check.court("a", "b");
    court.decide(0);
    court.decide(1);
    court.appeal(1);
    Check.denies("7 with cause 6", court, "7 1 6", () -> Check.execute(court, "open;appeal 1"));
    Check.denies("7 with cause 2", court, "7 0 2", () -> Check.execute(court, "cancel 1"));
    Check.denies("7 with cause 8", court, "7 0 8", () -> Check.execute(court, "cancel 2"));
    Check.denies("47 a denial without cause", court, "2 0 -", () -> court.relax(0));
    Check.refuses("47 no cause", NONE, court::denialCause);
  }
}
