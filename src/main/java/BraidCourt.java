import java.util.NoSuchElementException;

/**
 * A court that tries braids on five strands.
 *
 * <p>Inside, a letter is a number: its index, negative for the opposite crossing; so the inverse
 * of a letter is the negated number, and 0 is no letter.
 */
public final class BraidCourt {
  private static final int STRANDS = 5;
  private static final int COORDINATES = 2 * STRANDS;
  private static final int MAX_CASES = 8;
  private static final int MAX_LETTERS = 16;
  private static final int MAX_RELAXED = 400;
  private static final int MAX_REDUCTIONS = 2000;
  // Each reduction puts back fewer than 400 letters, so that no relaxation takes so many steps.
  private static final int MAX_STEPS = 1000000;
  private static final int MAX_CHANGES = 8;
  private static final int MAX_TEXT = 60;
  // The shortest command has four characters, and a semicolon parts it from the next one.
  private static final int MAX_COMMANDS = 12;
  private static final int MAX_LINE = MAX_RELAXED;
  private static final int MAX_WRITHE_OF_FREED = 2;

  private static final int NONE = -1;

  private static final int ALLOWED = 0;
  private static final int LIMIT_REACHED = 1;
  private static final int CASE_DECIDED = 2;
  private static final int CASE_UNDECIDED = 3;
  private static final int WORD_EMPTY = 4;
  private static final int WORD_TOO_LONG = 5;
  private static final int WAS_APPEALED = 6;
  private static final int COMMAND_FAILED = 7;
  private static final int NO_SUCH_CASE = 8;

  private final Judge judge = new Judge();
  private final Docket docket = judge.docket;
  private final Relaxer relaxer = judge.relaxer;
  private final Docket backup = new Docket();
  private final Docket snapshot = new Docket();
  private final History history = new History();
  private final Curve curve = new Curve();
  private final Script script = new Script();
  private final char[] line = new char[MAX_LINE];
  private int lineLength = 0;
  private boolean hasSnapshot = false;
  private int keptFault = NONE;
  private int latestDenial = ALLOWED;
  private int latestDetail = 0;
  private int latestCause = ALLOWED;

  public BraidCourt() {
  }

  // ---- words

  public int openCase() throws UnsupportedOperationException {
    admit(Command.OPEN, 0);
    return docket.addCase();
  }

  public int cross(int number, char letter)
      throws IndexOutOfBoundsException, IllegalArgumentException, UnsupportedOperationException {
    requireCase(number);
    int crossing = letterOf(letter);
    if (crossing == 0) {
      throw new IllegalArgumentException("there is no such letter");
    }
    admit(Command.CROSS, number);
    docket.words[number].append(crossing);
    return docket.words[number].length;
  }

  public char cutLast(int number)
      throws IndexOutOfBoundsException, UnsupportedOperationException {
    requireCase(number);
    admit(Command.CUT, number);
    return characterOf(docket.words[number].removeLast());
  }

  public int cancel(int number) throws IndexOutOfBoundsException, UnsupportedOperationException {
    requireCase(number);
    admit(Command.CANCEL, number);
    return docket.words[number].removePairs();
  }

  public int relax(int number) throws IndexOutOfBoundsException, UnsupportedOperationException {
    requireCase(number);
    admit(Command.RELAX, number);
    return judge.replaceByRelaxed(number);
  }

  public int caseCount() {
    return docket.cases;
  }

  public int wordLength(int number) throws IndexOutOfBoundsException {
    requireCase(number);
    return docket.words[number].length;
  }

  public char letterAt(int number, int position)
      throws IndexOutOfBoundsException, NoSuchElementException {
    requireCase(number);
    Word word = docket.words[number];
    if (position < 0 || position >= word.length) {
      throw new NoSuchElementException("there is no such position");
    }
    return characterOf(word.letters[position]);
  }

  public boolean hasHandle(int number) throws IndexOutOfBoundsException {
    requireCase(number);
    return docket.words[number].endOfFirstHandle() != NONE;
  }

  public int handleBegin(int number) throws IndexOutOfBoundsException, NoSuchElementException {
    int end = requireHandleEnd(number);
    return beginOfHandle(docket.words[number].letters, end);
  }

  public int handleEnd(int number) throws IndexOutOfBoundsException, NoSuchElementException {
    return requireHandleEnd(number);
  }

  public int relaxedLength(int number) throws IndexOutOfBoundsException, IllegalStateException {
    requireRelaxed(number);
    return relaxer.doneLength;
  }

  // ---- braids

  public int writhe(int number) throws IndexOutOfBoundsException {
    requireCase(number);
    return docket.words[number].sumOfSigns();
  }

  public int strandEnd(int number, int position)
      throws IndexOutOfBoundsException, IllegalArgumentException {
    requireCase(number);
    requirePosition(position);
    return docket.words[number].endOf(position);
  }

  public int closedThreads(int number) throws IndexOutOfBoundsException {
    requireCase(number);
    return docket.words[number].countCycles();
  }

  public int crossings(int number, int first, int second)
      throws IndexOutOfBoundsException, IllegalArgumentException {
    requireCase(number);
    requirePosition(first);
    requirePosition(second);
    return docket.words[number].sumOfCrossings(first, second);
  }

  public long coordinate(int number, int coordinate)
      throws IndexOutOfBoundsException, IllegalArgumentException {
    requireCase(number);
    if (coordinate < 0 || coordinate >= COORDINATES) {
      throw new IllegalArgumentException("there is no such coordinate");
    }
    curve.drawWord(docket.words[number]);
    return curve.values[coordinate];
  }

  public boolean isTrivial(int number) throws IndexOutOfBoundsException, IllegalStateException {
    requireRelaxed(number);
    return relaxer.doneLength == 0;
  }

  public boolean areEqual(int first, int second)
      throws IndexOutOfBoundsException, IllegalStateException {
    requireRelaxedQuotient(first, second);
    return relaxer.doneLength == 0;
  }

  public boolean areEqualByCoordinates(int first, int second) throws IndexOutOfBoundsException {
    requireCase(first);
    requireCase(second);
    return judge.sameBraid(first, second);
  }

  public int compare(int first, int second)
      throws IndexOutOfBoundsException, IllegalStateException {
    requireRelaxedQuotient(first, second);
    return relaxer.signOfDone();
  }

  public int compareByCoordinates(int first, int second) throws IndexOutOfBoundsException {
    requireCase(first);
    requireCase(second);
    return judge.signOfQuotient(first, second);
  }

  public int caseByBraid(int rank) throws NoSuchElementException {
    int number = judge.caseOfRank(rank);
    if (number == NONE) {
      throw new NoSuchElementException("there is no such rank");
    }
    return number;
  }

  // ---- verdicts

  public boolean decide(int number)
      throws IndexOutOfBoundsException, UnsupportedOperationException {
    requireCase(number);
    admit(Command.DECIDE, number);
    judge.giveVerdict(number);
    return docket.hasVerdictTangled(number);
  }

  public int appeal(int number) throws IndexOutOfBoundsException, UnsupportedOperationException {
    requireCase(number);
    admit(Command.APPEAL, number);
    return judge.reviewPrecedent(docket.restsOn[number]);
  }

  public boolean isDecided(int number) throws IndexOutOfBoundsException {
    requireCase(number);
    return docket.hasVerdict(number);
  }

  public boolean isTangled(int number) throws IndexOutOfBoundsException {
    requireCase(number);
    return docket.hasVerdictTangled(number);
  }

  public int precedentOf(int number) throws IndexOutOfBoundsException, NoSuchElementException {
    requireCase(number);
    if (!docket.hasVerdict(number)) {
      throw new NoSuchElementException("the case is undecided");
    }
    return docket.restsOn[number];
  }

  public int findPrecedent(int number) throws IndexOutOfBoundsException, NoSuchElementException {
    requireCase(number);
    int precedent = judge.precedentFor(number);
    if (precedent == NONE) {
      throw new NoSuchElementException("there is no such precedent");
    }
    return precedent;
  }

  public int precedentCount() {
    return docket.precedents;
  }

  public boolean isAppealed(int precedent) throws IndexOutOfBoundsException {
    requirePrecedent(precedent);
    return docket.appealed[precedent];
  }

  public int casesOn(int precedent) throws IndexOutOfBoundsException {
    requirePrecedent(precedent);
    return docket.countRestingOn(precedent);
  }

  public int decidedCount() {
    return docket.countDecided();
  }

  public int tangledCount() {
    return docket.countTangled();
  }

  public double meanLength() throws ArithmeticException {
    if (docket.cases == 0) {
      throw new ArithmeticException("there are no cases");
    }
    return (double) docket.sumOfLengths() / (double) docket.cases;
  }

  public float freedShare() throws ArithmeticException {
    int decided = docket.countDecided();
    if (decided == 0) {
      throw new ArithmeticException("no case is decided");
    }
    return (float) (decided - docket.countTangled()) / (float) decided;
  }

  public boolean isConsistent() {
    for (int first = 0; first < docket.cases; first++) {
      for (int second = first + 1; second < docket.cases; second++) {
        if (!judge.agreesOn(first, second)) {
          return false;
        }
      }
    }
    return true;
  }

  // ---- texts and output lines

  public int feed(char character) throws IllegalStateException {
    if (script.isFull()) {
      throw new IllegalStateException("the text buffer is full");
    }
    return script.write(character);
  }

  public int execute() throws IllegalArgumentException, UnsupportedOperationException {
    boolean matches = script.parse();
    script.empty();
    if (!matches) {
      keptFault = script.at;
      throw new IllegalArgumentException("the text does not match the grammar");
    }
    backup.copyFrom(docket);
    for (int i = 0; i < script.count; i++) {
      Command command = script.commands[i];
      int objection = judge.objectionTo(command, script.numbers[i]);
      if (objection != ALLOWED) {
        docket.copyFrom(backup);
        keepDenial(COMMAND_FAILED, i, objection);
        throw new UnsupportedOperationException("a command failed");
      }
      judge.perform(command, script.numbers[i], script.letters[i]);
    }
    history.keep(backup);
    return script.count;
  }

  public int faultPosition() throws NoSuchElementException {
    if (keptFault == NONE) {
      throw new NoSuchElementException("no fault position was kept yet");
    }
    return keptFault;
  }

  public int writeCase(int number) throws IndexOutOfBoundsException {
    requireCase(number);
    Word word = docket.words[number];
    writeLetters(word.letters, word.length);
    writeCharacter(':');
    writeCharacter(markOf(number));
    return lineLength;
  }

  public int writeRelaxed(int number) throws IndexOutOfBoundsException, IllegalStateException {
    requireRelaxed(number);
    writeLetters(relaxer.done, relaxer.doneLength);
    return lineLength;
  }

  public char lineCharacter(int index) throws IndexOutOfBoundsException {
    if (index < 0 || index >= lineLength) {
      throw new IndexOutOfBoundsException("there is no such index");
    }
    return line[index];
  }

  // ---- the latest denial

  public int denial() throws NoSuchElementException {
    requireDenial();
    return latestDenial;
  }

  public int denialDetail() throws NoSuchElementException {
    requireDenial();
    return latestDetail;
  }

  public int denialCause() throws NoSuchElementException {
    requireDenial();
    if (latestCause == ALLOWED) {
      throw new NoSuchElementException("the latest denial has no cause");
    }
    return latestCause;
  }

  // ---- undo and snapshots

  public int undo() throws IllegalStateException {
    if (history.count == 0) {
      throw new IllegalStateException("there is no change to undo");
    }
    history.takeBack(docket);
    return history.count;
  }

  public int undoCount() {
    return history.count;
  }

  public int saveSnapshot() {
    snapshot.copyFrom(docket);
    hasSnapshot = true;
    return docket.cases;
  }

  public int restoreSnapshot() throws IllegalStateException {
    if (!hasSnapshot) {
      throw new IllegalStateException("there is no snapshot");
    }
    docket.copyFrom(snapshot);
    history.forget();
    return docket.cases;
  }

  // ---- helpers of the calls

  private void requireCase(int number) throws IndexOutOfBoundsException {
    if (!docket.hasCase(number)) {
      throw new IndexOutOfBoundsException("there is no such case");
    }
  }

  private void requirePrecedent(int precedent) throws IndexOutOfBoundsException {
    if (precedent < 0 || precedent >= docket.precedents) {
      throw new IndexOutOfBoundsException("there is no such precedent");
    }
  }

  private static void requirePosition(int position) throws IllegalArgumentException {
    if (position < 1 || position > STRANDS) {
      throw new IllegalArgumentException("there is no such position");
    }
  }

  private int requireHandleEnd(int number)
      throws IndexOutOfBoundsException, NoSuchElementException {
    requireCase(number);
    int end = docket.words[number].endOfFirstHandle();
    if (end == NONE) {
      throw new NoSuchElementException("there is no handle");
    }
    return end;
  }

  private void requireRelaxed(int number)
      throws IndexOutOfBoundsException, IllegalStateException {
    requireCase(number);
    relaxer.relaxWord(docket.words[number]);
    requireSuccess();
  }

  private void requireRelaxedQuotient(int first, int second)
      throws IndexOutOfBoundsException, IllegalStateException {
    requireCase(first);
    requireCase(second);
    relaxer.relaxQuotient(docket.words[first], docket.words[second]);
    requireSuccess();
  }

  private void requireSuccess() throws IllegalStateException {
    if (relaxer.failed) {
      throw new IllegalStateException("the relaxation fails");
    }
  }

  private void requireDenial() throws NoSuchElementException {
    if (latestDenial == ALLOWED) {
      throw new NoSuchElementException("nothing was denied yet");
    }
  }

  /** Denies a change that there is an objection to; else keeps what it is going to change. */
  private void admit(Command command, int number) throws UnsupportedOperationException {
    int objection = judge.objectionTo(command, number);
    if (objection != ALLOWED) {
      keepDenial(objection, judge.detailOf(objection, command, number), ALLOWED);
      throw new UnsupportedOperationException("the call is denied");
    }
    history.keep(docket);
  }

  private void keepDenial(int number, int detail, int cause) {
    latestDenial = number;
    latestDetail = detail;
    latestCause = cause;
  }

  private char markOf(int number) {
    if (!docket.hasVerdict(number)) {
      return '?';
    }
    return docket.hasVerdictTangled(number) ? 't' : 'f';
  }

  private void writeLetters(int[] letters, int length) {
    lineLength = 0;
    for (int i = 0; i < length; i++) {
      writeCharacter(characterOf(letters[i]));
    }
  }

  private void writeCharacter(char character) {
    if (lineLength < MAX_LINE) {
      line[lineLength] = character;
      lineLength++;
    }
  }

  // ---- letters

  /** The letter that a character stands for, 0 if it stands for none. */
  private static int letterOf(char character) {
    if (character >= 'a' && character <= 'd') {
      return character - 'a' + 1;
    }
    if (character >= 'A' && character <= 'D') {
      return 'A' - character - 1;
    }
    return 0;
  }

  private static char characterOf(int letter) {
    return letter > 0 ? (char) ('a' + letter - 1) : (char) ('A' - letter - 1);
  }

  private static int indexOf(int letter) {
    return letter < 0 ? -letter : letter;
  }

  private static int signOf(long value) {
    if (value == 0) {
      return 0;
    }
    return value > 0 ? 1 : -1;
  }

  /** Where a strand is after a letter of an index that was at a position before it. */
  private static int positionAfter(int index, int position) {
    if (position == index) {
      return index + 1;
    }
    return position == index + 1 ? index : position;
  }

  /** Where the handle begins that ends at a position, NONE if no handle ends there. */
  private static int beginOfHandle(int[] letters, int end) {
    if (end < 0 || end >= letters.length) {
      return NONE;
    }
    int index = indexOf(letters[end]);
    for (int i = end - 1; i >= 0; i--) {
      int other = indexOf(letters[i]);
      if (other == index) {
        return letters[i] == -letters[end] ? i : NONE;
      }
      if (other == index - 1) {
        return NONE;
      }
    }
    return NONE;
  }

  /** The word of a case. */
  private static final class Word {
    private final int[] letters = new int[MAX_LETTERS];
    private int length = 0;

    boolean isFull() {
      return length >= MAX_LETTERS;
    }

    void append(int letter) {
      if (length < MAX_LETTERS) {
        letters[length] = letter;
        length++;
      }
    }

    int removeLast() {
      if (length == 0) {
        return 0;
      }
      length--;
      return letters[length];
    }

    int removePairs() {
      int kept = 0;
      for (int i = 0; i < length; i++) {
        if (kept > 0 && letters[kept - 1] == -letters[i]) {
          kept--;
        } else {
          letters[kept] = letters[i];
          kept++;
        }
      }
      int removed = length - kept;
      length = kept;
      return removed;
    }

    int endOfFirstHandle() {
      for (int end = 0; end < length; end++) {
        if (beginOfHandle(letters, end) != NONE) {
          return end;
        }
      }
      return NONE;
    }

    int sumOfSigns() {
      int sum = 0;
      for (int i = 0; i < length; i++) {
        sum += signOf(letters[i]);
      }
      return sum;
    }

    /** The position at which the strand ends that begins at a position. */
    int endOf(int begin) {
      int position = begin;
      for (int i = 0; i < length; i++) {
        position = positionAfter(indexOf(letters[i]), position);
      }
      return position;
    }

    boolean isPure() {
      for (int position = 1; position <= STRANDS; position++) {
        if (endOf(position) != position) {
          return false;
        }
      }
      return true;
    }

    int countCycles() {
      int cycles = 0;
      for (int begin = 1; begin <= STRANDS; begin++) {
        if (isLeastOfCycle(begin)) {
          cycles++;
        }
      }
      return cycles;
    }

    private boolean isLeastOfCycle(int begin) {
      int position = begin;
      for (int i = 0; i < STRANDS; i++) {
        position = endOf(position);
        if (position < begin) {
          return false;
        }
      }
      return true;
    }

    /** The sum of the signs of the letters at which two strands cross, by their beginnings. */
    int sumOfCrossings(int firstBegin, int secondBegin) {
      int first = firstBegin;
      int second = secondBegin;
      int sum = 0;
      for (int i = 0; i < length; i++) {
        int index = indexOf(letters[i]);
        int firstAfter = positionAfter(index, first);
        if (first != second && firstAfter == second) {
          sum += signOf(letters[i]);
        }
        second = positionAfter(index, second);
        first = firstAfter;
      }
      return sum;
    }

    void copyFrom(Word other) {
      copyRow(other.letters, other.length);
    }

    void copyRow(int[] row, int rowLength) {
      length = 0;
      for (int i = 0; i < rowLength; i++) {
        append(row[i]);
      }
    }
  }

  /** Relaxes words; what it found stands until the next relaxation. */
  private static final class Relaxer {
    // The word is what is done, which has no handle, and then what is ahead, next letter on top.
    private final int[] done = new int[MAX_RELAXED];
    private final int[] ahead = new int[MAX_RELAXED];
    private int doneLength = 0;
    private int aheadLength = 0;
    private int reductions = 0;
    private boolean failed = false;

    void relaxWord(Word word) {
      begin();
      putAhead(word);
      run();
    }

    /** Relaxes the product of the inverse of the first word and the second word. */
    void relaxQuotient(Word first, Word second) {
      begin();
      putAhead(second);
      for (int i = 0; i < first.length; i++) {
        push(-first.letters[i]);
      }
      run();
    }

    int signOfDone() {
      int least = 0;
      for (int i = 0; i < doneLength; i++) {
        if (least == 0 || indexOf(done[i]) < indexOf(least)) {
          least = done[i];
        }
      }
      return signOf(least);
    }

    private void begin() {
      doneLength = 0;
      aheadLength = 0;
      reductions = 0;
      failed = false;
    }

    private void putAhead(Word word) {
      for (int i = word.length - 1; i >= 0; i--) {
        push(word.letters[i]);
      }
    }

    private void push(int letter) {
      if (aheadLength < MAX_RELAXED) {
        ahead[aheadLength] = letter;
        aheadLength++;
      }
    }

    private void run() {
      for (int step = 0; step < MAX_STEPS && aheadLength > 0 && !failed; step++) {
        takeNext();
        int handle = beginOfHandle(done, doneLength - 1);
        if (handle != NONE) {
          reduce(handle);
        }
      }
      if (aheadLength > 0) {
        failed = true;
      }
    }

    private void takeNext() {
      if (doneLength < MAX_RELAXED) {
        aheadLength--;
        done[doneLength] = ahead[aheadLength];
        doneLength++;
      }
    }

    /** Reduces the handle at the end of what is done; its inner part is ahead afterwards. */
    private void reduce(int handle) {
      int first = done[handle];
      int index = indexOf(first);
      int lengthAfter = doneLength + aheadLength - 2 + 2 * countInside(handle, index + 1);
      if (reductions >= MAX_REDUCTIONS || lengthAfter > MAX_RELAXED) {
        failed = true;
        return;
      }
      reductions++;
      for (int i = doneLength - 2; i > handle; i--) {
        if (indexOf(done[i]) == index + 1) {
          push(signOf(first) * (index + 1));
          push(signOf(done[i]) * index);
          push(-signOf(first) * (index + 1));
        } else {
          push(done[i]);
        }
      }
      doneLength = handle;
    }

    /** How many letters of an index are between the first and the last letter of the handle. */
    private int countInside(int handle, int index) {
      int count = 0;
      for (int i = handle + 1; i < doneLength - 1; i++) {
        if (done[i] == index || done[i] == -index) {
          count++;
        }
      }
      return count;
    }
  }

  /** The coordinates of a word. */
  private static final class Curve {
    private final long[] values = new long[COORDINATES];

    void drawWord(Word word) {
      straighten();
      for (int i = 0; i < word.length; i++) {
        follow(word.letters[i]);
      }
    }

    /** Draws the product of the inverse of the first word and the second word. */
    void drawQuotient(Word first, Word second) {
      straighten();
      for (int i = first.length - 1; i >= 0; i--) {
        follow(-first.letters[i]);
      }
      for (int i = 0; i < second.length; i++) {
        follow(second.letters[i]);
      }
    }

    int signOfFirst() {
      for (int i = 0; i < COORDINATES; i += 2) {
        if (values[i] != 0) {
          return signOf(values[i]);
        }
      }
      return 0;
    }

    boolean isSameAs(Curve other) {
      for (int i = 0; i < COORDINATES; i++) {
        if (values[i] != other.values[i]) {
          return false;
        }
      }
      return true;
    }

    private void straighten() {
      for (int i = 0; i < COORDINATES; i++) {
        values[i] = i % 2;
      }
    }

    private void follow(int letter) {
      int at = 2 * (indexOf(letter) - 1);
      if (at < 0 || at + 3 >= COORDINATES) {
        return;
      }
      // The opposite crossing is the mirror image, in which x and u have the opposite signs.
      int sign = signOf(letter);
      long x = sign * values[at];
      long y = values[at + 1];
      long u = sign * values[at + 2];
      long v = values[at + 3];
      long z = x - Math.min(y, 0L) - u + Math.max(v, 0L);
      x += Math.max(y, 0L) + Math.max(Math.max(v, 0L) - z, 0L);
      u += Math.min(v, 0L) + Math.min(Math.min(y, 0L) + z, 0L);
      values[at] = sign * x;
      values[at + 1] = v - Math.max(z, 0L);
      values[at + 2] = sign * u;
      values[at + 3] = y + Math.max(z, 0L);
    }
  }

  /** Everything that changes can change: the cases and the precedents. */
  private static final class Docket {
    private final Word[] words = new Word[MAX_CASES];
    // The precedent of each case, NONE while the case is undecided.
    private final int[] restsOn = new int[MAX_CASES];
    // For each precedent the case that made it: that case's word, which is fixed, is its braid.
    private final int[] makers = new int[MAX_CASES];
    private final boolean[] tangled = new boolean[MAX_CASES];
    private final boolean[] appealed = new boolean[MAX_CASES];
    private int cases = 0;
    private int precedents = 0;

    Docket() {
      for (int i = 0; i < MAX_CASES; i++) {
        words[i] = new Word();
        restsOn[i] = NONE;
      }
    }

    boolean hasCase(int number) {
      return number >= 0 && number < cases;
    }

    boolean isFull() {
      return cases >= MAX_CASES;
    }

    boolean hasVerdict(int number) {
      return restsOn[number] != NONE;
    }

    boolean hasVerdictTangled(int number) {
      return hasVerdict(number) && tangled[restsOn[number]];
    }

    int addCase() {
      if (isFull()) {
        return NONE;
      }
      int number = cases;
      words[number].length = 0;
      restsOn[number] = NONE;
      cases++;
      return number;
    }

    int addPrecedent(int maker, boolean verdict) {
      if (precedents >= MAX_CASES) {
        return NONE;
      }
      int precedent = precedents;
      makers[precedent] = maker;
      tangled[precedent] = verdict;
      appealed[precedent] = false;
      precedents++;
      return precedent;
    }

    int countRestingOn(int precedent) {
      int count = 0;
      for (int i = 0; i < cases; i++) {
        if (restsOn[i] == precedent) {
          count++;
        }
      }
      return count;
    }

    int countDecided() {
      int count = 0;
      for (int i = 0; i < cases; i++) {
        if (hasVerdict(i)) {
          count++;
        }
      }
      return count;
    }

    int countTangled() {
      int count = 0;
      for (int i = 0; i < cases; i++) {
        if (hasVerdictTangled(i)) {
          count++;
        }
      }
      return count;
    }

    int sumOfLengths() {
      int sum = 0;
      for (int i = 0; i < cases; i++) {
        sum += words[i].length;
      }
      return sum;
    }

    void copyFrom(Docket other) {
      for (int i = 0; i < MAX_CASES; i++) {
        words[i].copyFrom(other.words[i]);
        restsOn[i] = other.restsOn[i];
        makers[i] = other.makers[i];
        tangled[i] = other.tangled[i];
        appealed[i] = other.appealed[i];
      }
      cases = other.cases;
      precedents = other.precedents;
    }
  }

  /** The dockets before the latest changes, in a ring. */
  private static final class History {
    private final Docket[] kept = new Docket[MAX_CHANGES];
    private int next = 0;
    private int count = 0;

    History() {
      for (int i = 0; i < MAX_CHANGES; i++) {
        kept[i] = new Docket();
      }
    }

    void keep(Docket before) {
      kept[next].copyFrom(before);
      next = (next + 1) % MAX_CHANGES;
      if (count < MAX_CHANGES) {
        count++;
      }
    }

    void takeBack(Docket docket) {
      if (count > 0) {
        next = (next + MAX_CHANGES - 1) % MAX_CHANGES;
        docket.copyFrom(kept[next]);
        count--;
      }
    }

    void forget() {
      count = 0;
    }
  }

  /** What can change the docket, as it stands in a text up to the number of the case. */
  private enum Command {
    OPEN("open", false),
    CROSS("cross ", true),
    CUT("cut ", true),
    CANCEL("cancel ", true),
    RELAX("relax ", true),
    DECIDE("decide ", true),
    APPEAL("appeal ", true);

    private static final Command[] ALL = values();

    private final String spelling;
    private final boolean takesCase;

    Command(String spelling, boolean takesCase) {
      this.spelling = spelling;
      this.takesCase = takesCase;
    }
  }

  /** Says what stands against a command, performs it, and compares the braids of cases. */
  private static final class Judge {
    private final Docket docket = new Docket();
    private final Relaxer relaxer = new Relaxer();
    private final Curve curve = new Curve();
    private final Curve otherCurve = new Curve();

    /** The denial of a command, ALLOWED if there is none. */
    int objectionTo(Command command, int number) {
      if (command == Command.OPEN) {
        return docket.isFull() ? LIMIT_REACHED : ALLOWED;
      }
      if (!docket.hasCase(number)) {
        return NO_SUCH_CASE;
      }
      if (command == Command.APPEAL) {
        return objectionToAppeal(number);
      }
      if (docket.hasVerdict(number)) {
        return CASE_DECIDED;
      }
      Word word = docket.words[number];
      switch (command) {
        case CROSS:
          return word.isFull() ? LIMIT_REACHED : ALLOWED;
        case CUT:
          return word.length == 0 ? WORD_EMPTY : ALLOWED;
        case RELAX:
          relaxer.relaxWord(word);
          return relaxer.failed || relaxer.doneLength > MAX_LETTERS ? WORD_TOO_LONG : ALLOWED;
        default:
          return ALLOWED;
      }
    }

    private int objectionToAppeal(int number) {
      if (!docket.hasVerdict(number)) {
        return CASE_UNDECIDED;
      }
      return docket.appealed[docket.restsOn[number]] ? WAS_APPEALED : ALLOWED;
    }

    int detailOf(int objection, Command command, int number) {
      switch (objection) {
        case LIMIT_REACHED:
          return command == Command.OPEN ? MAX_CASES : MAX_LETTERS;
        case CASE_DECIDED:
        case WAS_APPEALED:
          return docket.restsOn[number];
        case WORD_TOO_LONG:
          return docket.words[number].length;
        default:
          return number;
      }
    }

    /** Performs a command of a text; nothing may stand against it. */
    void perform(Command command, int number, int letter) {
      switch (command) {
        case OPEN:
          docket.addCase();
          break;
        case CROSS:
          docket.words[number].append(letter);
          break;
        case CUT:
          docket.words[number].removeLast();
          break;
        case CANCEL:
          docket.words[number].removePairs();
          break;
        case RELAX:
          replaceByRelaxed(number);
          break;
        case DECIDE:
          giveVerdict(number);
          break;
        default:
          reviewPrecedent(docket.restsOn[number]);
          break;
      }
    }

    /** Relaxes the word of a case; returns the number of handles that are reduced. */
    int replaceByRelaxed(int number) {
      relaxer.relaxWord(docket.words[number]);
      docket.words[number].copyRow(relaxer.done, relaxer.doneLength);
      return relaxer.reductions;
    }

    void giveVerdict(int number) {
      int precedent = precedentFor(number);
      if (precedent == NONE) {
        precedent = docket.addPrecedent(number, looksTangled(docket.words[number]));
      }
      docket.restsOn[number] = precedent;
    }

    private static boolean looksTangled(Word word) {
      int writhe = word.sumOfSigns();
      return !word.isPure() || writhe > MAX_WRITHE_OF_FREED || writhe < -MAX_WRITHE_OF_FREED;
    }

    /** Hears an appeal; returns the number of cases that get the other verdict. */
    int reviewPrecedent(int precedent) {
      docket.appealed[precedent] = true;
      curve.drawWord(docket.words[docket.makers[precedent]]);
      if (curve.signOfFirst() != 1) {
        return 0;
      }
      docket.tangled[precedent] = !docket.tangled[precedent];
      return docket.countRestingOn(precedent);
    }

    /** The precedent whose braid is equal to that of a case, NONE if there is none. */
    int precedentFor(int number) {
      curve.drawWord(docket.words[number]);
      for (int i = 0; i < docket.precedents; i++) {
        otherCurve.drawWord(docket.words[docket.makers[i]]);
        if (curve.isSameAs(otherCurve)) {
          return i;
        }
      }
      return NONE;
    }

    boolean sameBraid(int first, int second) {
      curve.drawWord(docket.words[first]);
      otherCurve.drawWord(docket.words[second]);
      return curve.isSameAs(otherCurve);
    }

    int signOfQuotient(int first, int second) {
      curve.drawQuotient(docket.words[first], docket.words[second]);
      return curve.signOfFirst();
    }

    /** The case at a rank in the order of the braids, NONE if there is no such rank. */
    int caseOfRank(int rank) {
      for (int number = 0; number < docket.cases; number++) {
        if (rankOf(number) == rank) {
          return number;
        }
      }
      return NONE;
    }

    private int rankOf(int number) {
      int rank = 0;
      for (int other = 0; other < docket.cases; other++) {
        int sign = signOfQuotient(other, number);
        if (sign > 0 || sign == 0 && other < number) {
          rank++;
        }
      }
      return rank;
    }

    /** Whether all that isConsistent asks for holds for a pair of cases. */
    boolean agreesOn(int first, int second) {
      relaxer.relaxQuotient(docket.words[first], docket.words[second]);
      if (!relaxer.failed && relaxer.signOfDone() != signOfQuotient(first, second)) {
        return false;
      }
      if (!docket.hasVerdict(first) || !docket.hasVerdict(second) || !sameBraid(first, second)) {
        return true;
      }
      // Verdicts are kept with the precedents, so that the same precedent means the same verdict.
      return docket.restsOn[first] == docket.restsOn[second];
    }
  }

  /** The text buffer, and the commands of the text that was parsed last. */
  private static final class Script {
    private final char[] text = new char[MAX_TEXT];
    private int length = 0;
    private final Command[] commands = new Command[MAX_COMMANDS];
    private final int[] numbers = new int[MAX_COMMANDS];
    private final int[] letters = new int[MAX_COMMANDS];
    private int count = 0;
    // How far the text was read; where it does not match, this is the fault position.
    private int at = 0;

    Script() {
      for (int i = 0; i < MAX_COMMANDS; i++) {
        commands[i] = Command.OPEN;
      }
    }

    boolean isFull() {
      return length >= MAX_TEXT;
    }

    int write(char character) {
      if (length < MAX_TEXT) {
        text[length] = character;
        length++;
      }
      return length;
    }

    void empty() {
      length = 0;
    }

    /** Reads the whole text; returns whether it matches the grammar. */
    boolean parse() {
      count = 0;
      at = 0;
      for (int i = 0; i <= MAX_TEXT; i++) {
        if (!readCommand()) {
          return false;
        }
        if (at == length) {
          return true;
        }
        if (!readCharacter(';')) {
          return false;
        }
      }
      return false;
    }

    private boolean readCommand() {
      int farthest = 0;
      for (int i = 0; i < Command.ALL.length; i++) {
        Command command = Command.ALL[i];
        int matched = countMatching(command.spelling);
        if (matched == command.spelling.length()) {
          at += matched;
          return readParameters(command);
        }
        farthest = Math.max(farthest, matched);
      }
      at += farthest;
      return false;
    }

    private int countMatching(String spelling) {
      int matched = 0;
      while (matched < spelling.length()
          && at + matched < length
          && text[at + matched] == spelling.charAt(matched)) {
        matched++;
      }
      return matched;
    }

    private boolean readParameters(Command command) {
      int number = 0;
      int letter = 0;
      if (command.takesCase) {
        if (at >= length || text[at] < '0' || text[at] > '9') {
          return false;
        }
        number = text[at] - '0';
        at++;
      }
      if (command == Command.CROSS) {
        if (!readCharacter(' ') || at >= length || letterOf(text[at]) == 0) {
          return false;
        }
        letter = letterOf(text[at]);
        at++;
      }
      addStep(command, number, letter);
      return true;
    }

    private boolean readCharacter(char character) {
      if (at >= length || text[at] != character) {
        return false;
      }
      at++;
      return true;
    }

    private void addStep(Command command, int number, int letter) {
      if (count < MAX_COMMANDS) {
        commands[count] = command;
        numbers[count] = number;
        letters[count] = letter;
        count++;
      }
    }
  }
}
