import java.util.Objects;
import java.util.Set;
import java.util.TreeSet;

/** Counts what the tests find, and makes courts for them. */
final class Check {
  interface Call {
    Object make() throws ReflectiveOperationException;
  }

  private static final Set<String> BEGINNINGS = new TreeSet<>();
  private static int passed = 0;
  private static int failed = 0;

  private Check() {
  }

  static void answers(String what, Object want, Call call) {
    Object got;
    try {
      got = call.make();
    } catch (RuntimeException | ReflectiveOperationException thrown) {
      got = "throws " + thrown.getClass().getName();
    }
    same(what, want, got);
  }

  static void refuses(String what, Class<? extends RuntimeException> want, Call call) {
    Object got;
    try {
      got = "answers " + call.make();
    } catch (RuntimeException | ReflectiveOperationException thrown) {
      got = thrown.getClass();
    }
    same(what, want, got);
  }

  static void same(String what, Object want, Object got) {
    BEGINNINGS.add(what.split(" ", 2)[0]);
    if (Objects.equals(want, got)) {
      passed++;
    } else {
      failed++;
      System.out.println(what + ": due is " + want + ", but it is " + got);
    }
  }

  /** Whether there was a check of a promise, which begins with the promise's number. */
  static boolean hasChecked(int promise) {
    return BEGINNINGS.contains(Integer.toString(promise));
  }

  /** Prints the counts; returns whether nothing failed. */
  static boolean report() {
    System.out.println(passed + " passed, " + failed + " failed");
    return failed == 0;
  }

  /** A court with a case for each word. */
  static BraidCourt court(String... words) {
    BraidCourt court = new BraidCourt();
    for (String word : words) {
      int number = court.openCase();
      for (char letter : word.toCharArray()) {
        court.cross(number, letter);
      }
    }
    return court;
  }

  static String word(BraidCourt court, int number) {
    StringBuilder word = new StringBuilder();
    int length = court.wordLength(number);
    for (int i = 0; i < length; i++) {
      word.append(court.letterAt(number, i));
    }
    return word.toString();
  }

  static String line(BraidCourt court, int length) {
    StringBuilder line = new StringBuilder();
    for (int i = 0; i < length; i++) {
      line.append(court.lineCharacter(i));
    }
    return line.toString();
  }

  static int execute(BraidCourt court, String text) {
    for (char character : text.toCharArray()) {
      court.feed(character);
    }
    return court.execute();
  }

  /** The latest denial as "number detail cause", with "-" for no cause. */
  static String denial(BraidCourt court) {
    String cause;
    try {
      cause = "" + court.denialCause();
    } catch (java.util.NoSuchElementException none) {
      cause = "-";
    }
    return court.denial() + " " + court.denialDetail() + " " + cause;
  }

  /** A call that is denied, and with what. */
  static void denies(String what, BraidCourt court, String want, Call call) {
    refuses(what, UnsupportedOperationException.class, call);
    answers(what + ", its denial", want, () -> denial(court));
  }
}
