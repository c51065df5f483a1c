import java.lang.reflect.InvocationTargetException;
import java.lang.reflect.Method;
import java.util.ArrayList;
import java.util.Comparator;
import java.util.List;
import java.util.Random;

/** Runs of 512 calls, chosen by fixed seeds, on the program and on PlainCourt at once. */
final class RandomRunsTest {
  private static final int RUNS = 400;
  private static final int CALLS = 512;
  private static final String LETTERS = "abcdABCD";
  private static final String[] CHANGES = {"openCase", "cross", "cross", "cross", "cutLast",
      "cancel", "relax", "decide", "appeal", "undo", "feed", "execute"};

  private final Random random;
  private final BraidCourt court = new BraidCourt();
  private final PlainCourt plain = new PlainCourt();
  private final List<Method> methods = new ArrayList<>();
  private int calls = 0;
  private String fault = null;

  private RandomRunsTest(long seed) {
    random = new Random(seed);
    for (Method method : BraidCourt.class.getDeclaredMethods()) {
      if (java.lang.reflect.Modifier.isPublic(method.getModifiers())) {
        methods.add(method);
      }
    }
    methods.sort(Comparator.comparing(Method::getName));
  }

  static void run() {
    for (int seed = 0; seed < RUNS; seed++) {
      Check.same("random run " + seed, null, new RandomRunsTest(seed).firstFault());
    }
  }

  private String firstFault() {
    int bias = random.nextInt(3);
    if (bias > 0) {
      fill();
    }
    while (calls < CALLS && fault == null) {
      if (random.nextInt(12) == 0) {
        feedText();
      } else if (random.nextInt(3) < bias) {
        call(named(CHANGES[random.nextInt(CHANGES.length)]));
      } else {
        call(methods.get(random.nextInt(methods.size())));
      }
    }
    return fault;
  }

  /** Opens cases whose braids are often equal, so that precedents are followed. */
  private void fill() {
    String[] words = {"aba", "bab", "abA", "Bab", "", "acAC", "cdc", "dcd", "aabb", "ABAbab"};
    int cases = 1 + random.nextInt(8);
    for (int i = 0; i < cases; i++) {
      call(named("openCase"));
      String word = random.nextBoolean() ? words[random.nextInt(words.length)] : randomWord();
      for (char letter : word.toCharArray()) {
        call(named("cross"), i, letter);
      }
    }
  }

  private String randomWord() {
    StringBuilder word = new StringBuilder();
    for (int i = random.nextInt(17); i > 0; i--) {
      word.append(LETTERS.charAt(random.nextInt(8)));
    }
    return word.toString();
  }

  private void feedText() {
    StringBuilder text = new StringBuilder();
    String[] commands = {"open", "cross # *", "cross # *", "cut #", "cancel #", "relax #",
        "decide #", "appeal #"};
    for (int i = random.nextInt(7); i >= 0; i--) {
      String command = commands[random.nextInt(commands.length)];
      command = command.replace('#', (char) ('0' + random.nextInt(random.nextInt(9) + 1)));
      text.append(command.replace('*', LETTERS.charAt(random.nextInt(8))));
      text.append(i > 0 || random.nextInt(20) == 0 ? ";" : "");
    }
    if (random.nextInt(3) == 0) {
      text.setCharAt(random.nextInt(text.length()), "o ;0acrDe".charAt(random.nextInt(9)));
    }
    for (char character : text.toString().toCharArray()) {
      call(named("feed"), character);
    }
    call(named("execute"));
  }

  private Method named(String name) {
    for (Method method : methods) {
      if (method.getName().equals(name)) {
        return method;
      }
    }
    throw new AssertionError(name);
  }

  private void call(Method method) {
    Class<?>[] types = method.getParameterTypes();
    Object[] arguments = new Object[types.length];
    for (int i = 0; i < types.length; i++) {
      arguments[i] = types[i] == char.class ? (Object) someCharacter() : (Object) someNumber();
    }
    call(method, arguments);
  }

  private char someCharacter() {
    return random.nextInt(8) == 0
        ? (char) random.nextInt(random.nextBoolean() ? 128 : 65536)
        : LETTERS.charAt(random.nextInt(8));
  }

  private int someNumber() {
    switch (random.nextInt(20)) {
      case 0:
        return random.nextInt();
      case 1:
        return random.nextInt(20) - 2;
      default:
        return random.nextInt(8);
    }
  }

  private void call(Method method, Object... arguments) {
    if (fault != null || calls == CALLS) {
      return;
    }
    calls++;
    String due = answer(plain, method, arguments);
    String got = answer(court, method, arguments);
    if (!due.equals(got)) {
      fault = method.getName() + java.util.Arrays.toString(arguments) + " answers " + got
          + ", due is " + due;
    }
  }

  private static String answer(Object object, Method method, Object[] arguments) {
    try {
      Method same = object.getClass().getMethod(method.getName(), method.getParameterTypes());
      return String.valueOf(same.invoke(object, arguments));
    } catch (InvocationTargetException thrown) {
      return thrown.getCause().getClass().getName();
    } catch (ReflectiveOperationException wrong) {
      return wrong.toString() + " in " + object.getClass();
    }
  }
}
