import java.util.ArrayDeque;
import java.util.ArrayList;
import java.util.Deque;
import java.util.List;
import java.util.NoSuchElementException;

/**
 * The court once more, written from the document with texts and lists and no thought of speed:
 * the random runs compare the program with it.
 */
public final class PlainCourt {
  private static final class Denied extends Exception {
    final int number;
    final int detail;

    Denied(int number, int detail) {
      this.number = number;
      this.detail = detail;
    }
  }

  static final class Relaxation {
    String word;
    int handles;
    boolean fails;
  }

  private static final class State {
    final List<String> words = new ArrayList<>();
    final List<Integer> precedentOfCase = new ArrayList<>();
    final List<String> braids = new ArrayList<>();
    final List<Boolean> verdicts = new ArrayList<>();
    final List<Boolean> appeals = new ArrayList<>();

    State copy() {
      State copy = new State();
      copy.words.addAll(words);
      copy.precedentOfCase.addAll(precedentOfCase);
      copy.braids.addAll(braids);
      copy.verdicts.addAll(verdicts);
      copy.appeals.addAll(appeals);
      return copy;
    }
  }

  private State state = new State();
  private State saved = null;
  private final Deque<State> undos = new ArrayDeque<>();
  private String buffer = "";
  private String line = "";
  private Integer fault = null;
  private int[] latest = null;

  // ---- braids by their words

  static int index(char letter) {
    return Character.toLowerCase(letter) - 'a' + 1;
  }

  static int sign(char letter) {
    return Character.isLowerCase(letter) ? 1 : -1;
  }

  static char letter(int index, int sign) {
    char lower = (char) ('a' + index - 1);
    return sign > 0 ? lower : Character.toUpperCase(lower);
  }

  static char inverse(char letter) {
    return letter(index(letter), -sign(letter));
  }

  static String inverse(String word) {
    StringBuilder inverse = new StringBuilder();
    for (char letter : word.toCharArray()) {
      inverse.insert(0, inverse(letter));
    }
    return inverse.toString();
  }

  /** Begin and end of the handle that ends first, null if there is none. */
  static int[] handle(String word) {
    for (int end = 0; end < word.length(); end++) {
      for (int begin = 0; begin < end; begin++) {
        if (isHandle(word, begin, end)) {
          return new int[] {begin, end};
        }
      }
    }
    return null;
  }

  private static boolean isHandle(String word, int begin, int end) {
    int j = index(word.charAt(begin));
    if (word.charAt(end) != inverse(word.charAt(begin))) {
      return false;
    }
    for (int i = begin + 1; i < end; i++) {
      int between = index(word.charAt(i));
      if (between == j || between == j - 1) {
        return false;
      }
    }
    return true;
  }

  static String reduce(String word, int[] handle) {
    char first = word.charAt(handle[0]);
    int j = index(first);
    StringBuilder reduced = new StringBuilder(word.substring(0, handle[0]));
    for (char y : word.substring(handle[0] + 1, handle[1]).toCharArray()) {
      if (index(y) == j + 1) {
        reduced.append(letter(j + 1, -sign(first)));
        reduced.append(letter(j, sign(y)));
        reduced.append(letter(j + 1, sign(first)));
      } else {
        reduced.append(y);
      }
    }
    return reduced.append(word.substring(handle[1] + 1)).toString();
  }

  static Relaxation relaxation(String word) {
    Relaxation relaxation = new Relaxation();
    relaxation.word = word;
    for (int[] handle = handle(word); handle != null; handle = handle(relaxation.word)) {
      String reduced = reduce(relaxation.word, handle);
      if (reduced.length() > 400 || relaxation.handles == 2000) {
        relaxation.fails = true;
        return relaxation;
      }
      relaxation.word = reduced;
      relaxation.handles++;
    }
    return relaxation;
  }

  static String relaxed(String word) {
    Relaxation relaxation = relaxation(word);
    return relaxation.fails ? null : relaxation.word;
  }

  static int signOfRelaxed(String relaxed) {
    for (int index = 1; index <= 4; index++) {
      for (char letter : relaxed.toCharArray()) {
        if (index(letter) == index) {
          return sign(letter);
        }
      }
    }
    return 0;
  }

  private static long p(long t) {
    return t > 0 ? t : 0;
  }

  private static long m(long t) {
    return t < 0 ? t : 0;
  }

  static long[] coordinates(String word) {
    long[] c = {0, 1, 0, 1, 0, 1, 0, 1, 0, 1};
    for (char letter : word.toCharArray()) {
      int at = 2 * index(letter) - 2;
      long x = c[at];
      long y = c[at + 1];
      long u = c[at + 2];
      long v = c[at + 3];
      if (sign(letter) == 1) {
        long z = x - m(y) - u + p(v);
        c[at] = x + p(y) + p(p(v) - z);
        c[at + 1] = v - p(z);
        c[at + 2] = u + m(v) + m(m(y) + z);
        c[at + 3] = y + p(z);
      } else {
        long z = x + m(y) - u - p(v);
        c[at] = x - p(y) - p(p(v) + z);
        c[at + 1] = v + m(z);
        c[at + 2] = u - m(v) - m(m(y) - z);
        c[at + 3] = y - m(z);
      }
    }
    return c;
  }

  static int signByCoordinates(String word) {
    long[] c = coordinates(word);
    for (int i = 0; i < 10; i += 2) {
      if (c[i] != 0) {
        return c[i] > 0 ? 1 : -1;
      }
    }
    return 0;
  }

  static boolean equal(String first, String second) {
    return java.util.Arrays.equals(coordinates(first), coordinates(second));
  }

  static int writheOf(String word) {
    int sum = 0;
    for (char letter : word.toCharArray()) {
      sum += sign(letter);
    }
    return sum;
  }

  /** The strands in the order of their places behind the word; also adds up crossings. */
  static int[] strands(String word, int first, int second, int[] sum) {
    int[] strands = {1, 2, 3, 4, 5};
    for (char letter : word.toCharArray()) {
      int i = index(letter) - 1;
      int left = strands[i];
      int right = strands[i + 1];
      if (left == first && right == second || left == second && right == first) {
        sum[0] += sign(letter);
      }
      strands[i] = right;
      strands[i + 1] = left;
    }
    return strands;
  }

  static int end(String word, int strand) {
    int[] strands = strands(word, 0, 0, new int[1]);
    for (int i = 0; i < 5; i++) {
      if (strands[i] == strand) {
        return i + 1;
      }
    }
    throw new AssertionError("a strand is lost");
  }

  // ---- helpers

  private String word(int number) {
    if (number < 0 || number >= state.words.size()) {
      throw new IndexOutOfBoundsException();
    }
    return state.words.get(number);
  }

  private void precedent(int precedent) {
    if (precedent < 0 || precedent >= state.braids.size()) {
      throw new IndexOutOfBoundsException();
    }
  }

  private void undecided(int number) throws Denied {
    if (state.precedentOfCase.get(number) != null) {
      throw new Denied(2, state.precedentOfCase.get(number));
    }
  }

  private interface Change {
    int make() throws Denied;
  }

  private int change(Change change) {
    State before = state.copy();
    try {
      int answer = change.make();
      remember(before);
      return answer;
    } catch (Denied denied) {
      latest = new int[] {denied.number, denied.detail, 0};
      throw new UnsupportedOperationException();
    }
  }

  private void remember(State before) {
    undos.addLast(before);
    if (undos.size() > 8) {
      undos.removeFirst();
    }
  }

  private int doOpen() throws Denied {
    if (state.words.size() == 8) {
      throw new Denied(1, 8);
    }
    state.words.add("");
    state.precedentOfCase.add(null);
    return state.words.size() - 1;
  }

  private int doCross(int number, char letter) throws Denied {
    String word = word(number);
    if ("abcdABCD".indexOf(letter) < 0) {
      throw new IllegalArgumentException();
    }
    undecided(number);
    if (word.length() == 16) {
      throw new Denied(1, 16);
    }
    state.words.set(number, word + letter);
    return word.length() + 1;
  }

  private int doCut(int number) throws Denied {
    String word = word(number);
    undecided(number);
    if (word.isEmpty()) {
      throw new Denied(4, number);
    }
    state.words.set(number, word.substring(0, word.length() - 1));
    return word.charAt(word.length() - 1);
  }

  private int doCancel(int number) throws Denied {
    String word = word(number);
    undecided(number);
    String before;
    do {
      before = word;
      for (char letter : "abcdABCD".toCharArray()) {
        word = word.replace("" + letter + inverse(letter), "");
      }
    } while (!before.equals(word));
    int removed = state.words.get(number).length() - word.length();
    state.words.set(number, word);
    return removed;
  }

  private int doRelax(int number) throws Denied {
    String word = word(number);
    undecided(number);
    Relaxation relaxation = relaxation(word);
    if (relaxation.fails || relaxation.word.length() > 16) {
      throw new Denied(5, word.length());
    }
    state.words.set(number, relaxation.word);
    return relaxation.handles;
  }

  private int doDecide(int number) throws Denied {
    String word = word(number);
    undecided(number);
    for (int i = 0; i < state.braids.size(); i++) {
      if (equal(state.braids.get(i), word)) {
        state.precedentOfCase.set(number, i);
        return state.verdicts.get(i) ? 1 : 0;
      }
    }
    boolean identity = true;
    for (int strand = 1; strand <= 5; strand++) {
      identity &= end(word, strand) == strand;
    }
    boolean tangled = !identity || Math.abs(writheOf(word)) > 2;
    state.precedentOfCase.set(number, state.braids.size());
    state.braids.add(word);
    state.verdicts.add(tangled);
    state.appeals.add(false);
    return tangled ? 1 : 0;
  }

  private int doAppeal(int number) throws Denied {
    word(number);
    Integer precedent = state.precedentOfCase.get(number);
    if (precedent == null) {
      throw new Denied(3, number);
    }
    if (state.appeals.get(precedent)) {
      throw new Denied(6, precedent);
    }
    state.appeals.set(precedent, true);
    if (signByCoordinates(state.braids.get(precedent)) != 1) {
      return 0;
    }
    state.verdicts.set(precedent, !state.verdicts.get(precedent));
    return casesOn(precedent);
  }

  // ---- the face

  public int openCase() {
    return change(this::doOpen);
  }

  public int cross(int number, char letter) {
    return change(() -> doCross(number, letter));
  }

  public char cutLast(int number) {
    return (char) change(() -> doCut(number));
  }

  public int cancel(int number) {
    return change(() -> doCancel(number));
  }

  public int relax(int number) {
    return change(() -> doRelax(number));
  }

  public int caseCount() {
    return state.words.size();
  }

  public int wordLength(int number) {
    return word(number).length();
  }

  public char letterAt(int number, int position) {
    String word = word(number);
    if (position < 0 || position >= word.length()) {
      throw new NoSuchElementException();
    }
    return word.charAt(position);
  }

  public boolean hasHandle(int number) {
    return handle(word(number)) != null;
  }

  private int[] someHandle(int number) {
    int[] handle = handle(word(number));
    if (handle == null) {
      throw new NoSuchElementException();
    }
    return handle;
  }

  public int handleBegin(int number) {
    return someHandle(number)[0];
  }

  public int handleEnd(int number) {
    return someHandle(number)[1];
  }

  private static String relaxedOrFail(String word) {
    String relaxed = relaxed(word);
    if (relaxed == null) {
      throw new IllegalStateException();
    }
    return relaxed;
  }

  public int relaxedLength(int number) {
    return relaxedOrFail(word(number)).length();
  }

  public int writhe(int number) {
    return writheOf(word(number));
  }

  private static void position(int position) {
    if (position < 1 || position > 5) {
      throw new IllegalArgumentException();
    }
  }

  public int strandEnd(int number, int position) {
    String word = word(number);
    position(position);
    return end(word, position);
  }

  public int closedThreads(int number) {
    String word = word(number);
    int threads = 0;
    boolean[] seen = new boolean[6];
    for (int strand = 1; strand <= 5; strand++) {
      if (!seen[strand]) {
        threads++;
      }
      for (int at = strand; !seen[at]; at = end(word, at)) {
        seen[at] = true;
      }
    }
    return threads;
  }

  public int crossings(int number, int first, int second) {
    String word = word(number);
    position(first);
    position(second);
    int[] sum = new int[1];
    if (first != second) {
      strands(word, first, second, sum);
    }
    return sum[0];
  }

  public long coordinate(int number, int coordinate) {
    String word = word(number);
    if (coordinate < 0 || coordinate > 9) {
      throw new IllegalArgumentException();
    }
    return coordinates(word)[coordinate];
  }

  public boolean isTrivial(int number) {
    return relaxedOrFail(word(number)).isEmpty();
  }

  public boolean areEqual(int first, int second) {
    return relaxedOrFail(inverse(word(first)) + word(second)).isEmpty();
  }

  public boolean areEqualByCoordinates(int first, int second) {
    return equal(word(first), word(second));
  }

  public int compare(int first, int second) {
    return signOfRelaxed(relaxedOrFail(inverse(word(first)) + word(second)));
  }

  public int compareByCoordinates(int first, int second) {
    return signByCoordinates(inverse(word(first)) + word(second));
  }

  public int caseByBraid(int rank) {
    if (rank < 0 || rank >= state.words.size()) {
      throw new NoSuchElementException();
    }
    List<Integer> order = new ArrayList<>();
    for (int i = 0; i < state.words.size(); i++) {
      order.add(i);
    }
    order.sort((i, j) -> -compareByCoordinates(i, j));
    return order.get(rank);
  }

  public boolean decide(int number) {
    return change(() -> doDecide(number)) == 1;
  }

  public int appeal(int number) {
    return change(() -> doAppeal(number));
  }

  public boolean isDecided(int number) {
    word(number);
    return state.precedentOfCase.get(number) != null;
  }

  public boolean isTangled(int number) {
    return isDecided(number) && state.verdicts.get(state.precedentOfCase.get(number));
  }

  public int precedentOf(int number) {
    if (!isDecided(number)) {
      throw new NoSuchElementException();
    }
    return state.precedentOfCase.get(number);
  }

  public int findPrecedent(int number) {
    String word = word(number);
    for (int i = 0; i < state.braids.size(); i++) {
      if (equal(word, state.braids.get(i))) {
        return i;
      }
    }
    throw new NoSuchElementException();
  }

  public int precedentCount() {
    return state.braids.size();
  }

  public boolean isAppealed(int precedent) {
    precedent(precedent);
    return state.appeals.get(precedent);
  }

  public int casesOn(int precedent) {
    precedent(precedent);
    int count = 0;
    for (Integer other : state.precedentOfCase) {
      count += other != null && other == precedent ? 1 : 0;
    }
    return count;
  }

  public int decidedCount() {
    int count = 0;
    for (int i = 0; i < caseCount(); i++) {
      count += isDecided(i) ? 1 : 0;
    }
    return count;
  }

  public int tangledCount() {
    int count = 0;
    for (int i = 0; i < caseCount(); i++) {
      count += isTangled(i) ? 1 : 0;
    }
    return count;
  }

  public double meanLength() {
    if (caseCount() == 0) {
      throw new ArithmeticException();
    }
    int sum = 0;
    for (String word : state.words) {
      sum += word.length();
    }
    return (double) sum / (double) caseCount();
  }

  public float freedShare() {
    if (decidedCount() == 0) {
      throw new ArithmeticException();
    }
    return (float) (decidedCount() - tangledCount()) / (float) decidedCount();
  }

  public boolean isConsistent() {
    for (int i = 0; i < caseCount(); i++) {
      for (int j = 0; j < caseCount(); j++) {
        String relaxed = relaxed(inverse(word(i)) + word(j));
        if (relaxed != null && signOfRelaxed(relaxed) != compareByCoordinates(i, j)) {
          return false;
        }
        if (isDecided(i) && isDecided(j) && areEqualByCoordinates(i, j)
            && (isTangled(i) != isTangled(j) || precedentOf(i) != precedentOf(j))) {
          return false;
        }
      }
    }
    return true;
  }

  public int feed(char character) {
    if (buffer.length() == 60) {
      throw new IllegalStateException();
    }
    buffer += character;
    return buffer.length();
  }

  private static final String COMMAND =
      "(open|cross [0-9] [a-dA-D]|cut [0-9]|cancel [0-9]|relax [0-9]|decide [0-9]|appeal [0-9])";

  private static boolean matches(String text) {
    return text.matches("(?s)" + COMMAND + "(;" + COMMAND + ")*");
  }

  /** Whether a text can be continued to one that matches, tried for all that may follow. */
  private static boolean canGoOn(String text) {
    int last = text.lastIndexOf(';');
    if (last >= 0 && !matches(text.substring(0, last))) {
      return false;
    }
    String begun = text.substring(last + 1);
    for (String whole : new String[] {"open", "cross 0 a", "cut 0", "cancel 0", "relax 0",
        "decide 0", "appeal 0"}) {
      if (begun.length() <= whole.length()) {
        String filled = begun + whole.substring(begun.length());
        if (matches(filled)) {
          return true;
        }
      }
    }
    return false;
  }

  public int execute() {
    String text = buffer;
    buffer = "";
    if (!matches(text)) {
      int at = 0;
      while (at < text.length() && canGoOn(text.substring(0, at + 1))) {
        at++;
      }
      fault = at;
      throw new IllegalArgumentException();
    }
    State before = state.copy();
    String[] commands = text.split(";");
    for (int i = 0; i < commands.length; i++) {
      int cause = 0;
      try {
        perform(commands[i]);
      } catch (Denied denied) {
        cause = denied.number;
      } catch (RuntimeException other) {
        cause = 8;
      }
      if (cause != 0) {
        state = before;
        latest = new int[] {7, i, cause};
        throw new UnsupportedOperationException();
      }
    }
    remember(before);
    return commands.length;
  }

  private void perform(String command) throws Denied {
    String[] parts = command.split(" ");
    int number = parts.length > 1 ? Integer.parseInt(parts[1]) : 0;
    switch (parts[0]) {
      case "open" -> doOpen();
      case "cross" -> doCross(number, parts[2].charAt(0));
      case "cut" -> doCut(number);
      case "cancel" -> doCancel(number);
      case "relax" -> doRelax(number);
      case "decide" -> doDecide(number);
      default -> doAppeal(number);
    }
  }

  public int faultPosition() {
    if (fault == null) {
      throw new NoSuchElementException();
    }
    return fault;
  }

  public int writeCase(int number) {
    String mark = isDecided(number) ? isTangled(number) ? "t" : "f" : "?";
    line = word(number) + ":" + mark;
    return line.length();
  }

  public int writeRelaxed(int number) {
    line = relaxedOrFail(word(number));
    return line.length();
  }

  public char lineCharacter(int index) {
    if (index < 0 || index >= line.length()) {
      throw new IndexOutOfBoundsException();
    }
    return line.charAt(index);
  }

  private int latest(int part) {
    if (latest == null || latest[part] == 0 && part == 2) {
      throw new NoSuchElementException();
    }
    return latest[part];
  }

  public int denial() {
    return latest(0);
  }

  public int denialDetail() {
    return latest(1);
  }

  public int denialCause() {
    return latest(2);
  }

  public int undo() {
    if (undos.isEmpty()) {
      throw new IllegalStateException();
    }
    state = undos.removeLast();
    return undos.size();
  }

  public int undoCount() {
    return undos.size();
  }

  public int saveSnapshot() {
    saved = state.copy();
    return caseCount();
  }

  public int restoreSnapshot() {
    if (saved == null) {
      throw new IllegalStateException();
    }
    state = saved.copy();
    undos.clear();
    return caseCount();
  }
}
