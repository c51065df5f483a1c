import java.lang.reflect.Constructor;
import java.lang.reflect.Field;
import java.lang.reflect.Method;
import java.util.Random;

/**
 * The limits of a relaxation, 400 letters and 2000 handles. No word is known that a case can have
 * and that reaches them, so that this test hands longer words to the program's inner part.
 */
final class RelaxerTest {
  private RelaxerTest() {
  }

  static void run() {
    relaxes("400 letters", "da" + "b".repeat(133) + "A", 133);
    relaxes("402 letters", "daa" + "b".repeat(134) + "A", -1);
    relaxes("401 letters", "dda" + "b".repeat(133) + "A", -1);
    String growing = "ABA" + "A".repeat(17) + "bCdCddCB" + "a".repeat(17) + "ba";
    relaxes("1970 handles", growing, 1970);
    relaxes("2000 handles", growing + "aA".repeat(30), 2000);
    relaxes("2001 handles", growing + "aA".repeat(31), -1);
    Random random = new Random(11);
    for (int i = 0; i < 40; i++) {
      String word = randomWord(random, 10 + random.nextInt(140));
      PlainCourt.Relaxation plain = PlainCourt.relaxation(word);
      relaxes("random word " + i, word, plain.fails ? -1 : plain.handles);
    }
  }

  private static String randomWord(Random random, int length) {
    StringBuilder word = new StringBuilder();
    for (int i = 0; i < length; i++) {
      word.append("abcdABCD".charAt(random.nextInt(8)));
    }
    return word.toString();
  }

  /** Expects a number of handles, or -1 if the relaxation fails. */
  private static void relaxes(String what, String word, int handles) {
    try {
      Object relaxer = relaxer(word);
      boolean failed = (boolean) field(relaxer, "failed").get(relaxer);
      Check.same("relaxation fails: " + what, handles < 0, failed);
      if (handles >= 0 && !failed) {
        Check.same("handles: " + what, handles, field(relaxer, "reductions").get(relaxer));
        Check.same("relaxed: " + what, PlainCourt.relaxed(word), done(relaxer));
      }
    } catch (ReflectiveOperationException wrong) {
      Check.same("relaxer: " + what, "reached", wrong.toString());
    }
  }

  private static Object relaxer(String word) throws ReflectiveOperationException {
    Class<?> type = Class.forName("BraidCourt$Relaxer");
    Constructor<?> constructor = type.getDeclaredConstructor();
    constructor.setAccessible(true);
    Object relaxer = constructor.newInstance();
    int[] ahead = (int[]) field(relaxer, "ahead").get(relaxer);
    for (int i = 0; i < word.length(); i++) {
      char letter = word.charAt(word.length() - 1 - i);
      ahead[i] = PlainCourt.index(letter) * PlainCourt.sign(letter);
    }
    field(relaxer, "aheadLength").set(relaxer, word.length());
    Method run = type.getDeclaredMethod("run");
    run.setAccessible(true);
    run.invoke(relaxer);
    return relaxer;
  }

  private static String done(Object relaxer) throws ReflectiveOperationException {
    int[] done = (int[]) field(relaxer, "done").get(relaxer);
    int length = (int) field(relaxer, "doneLength").get(relaxer);
    StringBuilder word = new StringBuilder();
    for (int i = 0; i < length; i++) {
      word.append(PlainCourt.letter(Math.abs(done[i]), done[i]));
    }
    return word.toString();
  }

  private static Field field(Object object, String name) throws ReflectiveOperationException {
    Field field = object.getClass().getDeclaredField(name);
    field.setAccessible(true);
    return field;
  }
}
