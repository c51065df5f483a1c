import java.lang.reflect.Constructor;
import java.lang.reflect.Field;
import java.lang.reflect.Method;

/**
 * Reaches into the program for what no known run of calls reaches. A program without these inner
 * classes can not be tested in this way, which is not a fault of it.
 */
final class Inside {
  private Inside() {
  }

  static boolean isThere() {
    try {
      Class.forName("BraidCourt$Relaxer");
      field(new BraidCourt(), "docket");
      return true;
    } catch (ReflectiveOperationException other) {
      System.out.println("not tested: the inside of this program is another one");
      return false;
    }
  }

  static int[] letters(String word) {
    int[] letters = new int[word.length()];
    for (int i = 0; i < letters.length; i++) {
      letters[i] = PlainCourt.index(word.charAt(i)) * PlainCourt.sign(word.charAt(i));
    }
    return letters;
  }

  /** A relaxer that has relaxed a word, which may be longer than those of cases. */
  static Object relaxer(String word) throws ReflectiveOperationException {
    Class<?> type = Class.forName("BraidCourt$Relaxer");
    Constructor<?> constructor = type.getDeclaredConstructor();
    constructor.setAccessible(true);
    Object relaxer = constructor.newInstance();
    int[] ahead = (int[]) value(relaxer, "ahead");
    int[] letters = letters(word);
    for (int i = 0; i < letters.length; i++) {
      ahead[i] = letters[letters.length - 1 - i];
    }
    field(relaxer, "aheadLength").set(relaxer, letters.length);
    Method run = type.getDeclaredMethod("run");
    run.setAccessible(true);
    run.invoke(relaxer);
    return relaxer;
  }

  /** Puts letters in the place of the word of a case, as many as there are. */
  static void setWord(BraidCourt court, int number, int... letters)
      throws ReflectiveOperationException {
    Object word = ((Object[]) value(value(court, "docket"), "words"))[number];
    field(word, "letters").set(word, letters);
    field(word, "length").set(word, letters.length);
  }

  /** Lets a case rest on a precedent. */
  static void setPrecedent(BraidCourt court, int number, int precedent)
      throws ReflectiveOperationException {
    ((int[]) value(value(court, "docket"), "restsOn"))[number] = precedent;
  }

  static Object value(Object object, String name) throws ReflectiveOperationException {
    return field(object, name).get(object);
  }

  private static Field field(Object object, String name) throws ReflectiveOperationException {
    Field field = object.getClass().getDeclaredField(name);
    field.setAccessible(true);
    return field;
  }
}
