import java.util.NoSuchElementException;

/** Promises 39 to 44: texts and output lines. */
final class TextsTest {
  private TextsTest() {
  }

  static void run() {
    feed();
    execute();
    executeAllOrNothing();
    faultPositions();
    faultIsKept();
    longTexts();
    writeCase();
    writeRelaxed();
    lineCharacter();
  }

  private static void feed() {
    BraidCourt court = new BraidCourt();
    for (int i = 1; i <= 60; i++) {
      Check.same("39 feed " + i, i, court.feed((char) (i * 1000)));
    }
    Check.refuses("39 the buffer is full", IllegalStateException.class, () -> court.feed('o'));
    Check.refuses("40 it does not match", IllegalArgumentException.class, court::execute);
    Check.answers("39 feed after execute", 1, () -> court.feed('o'));
  }

  private static void execute() {
    BraidCourt court = new BraidCourt();
    Check.answers("40 each command", 8,
        () -> Check.execute(court, "open;cross 0 a;cross 0 A;cut 0;cancel 0;relax 0;open;open"));
    Check.same("40 the word", "a", Check.word(court, 0));
    Check.same("40 cases", 3, court.caseCount());
    Check.answers("40 decide and appeal", 3,
        () -> Check.execute(court, "decide 0;appeal 0;decide 1"));
    Check.same("40 the verdict after the appeal", false, court.isTangled(0));
    Check.same("40 the precedent", 1, court.precedentOf(1));
    Check.answers("40 relax", 4,
        () -> Check.execute(court, "cross 2 A;cross 2 b;cross 2 a;relax 2"));
    Check.same("40 relaxed", "baB", Check.word(court, 2));
    Check.answers("40 cancel", 2, () -> Check.execute(court, "cross 2 b;cancel 2"));
    Check.same("40 cancelled", "ba", Check.word(court, 2));
    Check.answers("40 cut", 1, () -> Check.execute(court, "cut 2"));
    Check.same("40 cut off", "b", Check.word(court, 2));
    Check.same("40 each text is one change", 5, court.undoCount());
    Check.refuses("40 the buffer is empty", IllegalArgumentException.class, court::execute);
    Check.same("40 an empty text ends too early", 0, court.faultPosition());
  }

  private static void executeAllOrNothing() {
    BraidCourt court = Check.court("ab", "AbCdbaCBAaC", "");
    fails(court, "cut 0;cut 0;cut 0", "7 2 4");
    fails(court, "open;cut 8", "7 1 8");
    fails(court, "cross 9 a", "7 0 8");
    fails(court, "decide 4;cut 0", "7 0 8");
    fails(court, "decide 0;cross 0 a", "7 1 2");
    fails(court, "cancel 0;relax 1", "7 1 5");
    fails(court, "appeal 0", "7 0 3");
    fails(court, "decide 0;appeal 0;appeal 0", "7 2 6");
    fails(court, "open;open;open;open;open;open", "7 5 1");
    Check.same("40 no precedents are left", 0, court.precedentCount());
    Check.same("40 no change is remembered", 8 , court.undoCount());
    court.undo();
    Check.same("40 undo goes on behind the failed texts", 2, court.caseCount());
  }

  private static void fails(BraidCourt court, String text, String denial) {
    Check.denies("40 " + text, court, denial, () -> Check.execute(court, text));
    Check.same("40 the word after " + text, "ab", Check.word(court, 0));
    Check.same("40 cases after " + text, 3, court.caseCount());
    Check.answers("40 the buffer is empty after " + text, 1, () -> court.feed(' '));
    Check.refuses("40 a space", IllegalArgumentException.class, court::execute);
  }

  private static void faultPositions() {
    fault("", 0);
    fault(" ", 0);
    fault("o", 1);
    fault("ope", 3);
    fault("oPen", 1);
    fault("Open", 0);
    fault("opene", 4);
    fault("open ", 4);
    fault("open;", 5);
    fault("open;;", 5);
    fault("open; open", 5);
    fault(";open", 0);
    fault("c", 1);
    fault("cx", 1);
    fault("cr", 2);
    fault("cross", 5);
    fault("cross ", 6);
    fault("cross  0 a", 6);
    fault("cross x", 6);
    fault("cross 0", 7);
    fault("cross 0a", 7);
    fault("cross 0 ", 8);
    fault("cross 0 e", 8);
    fault("cross 0 E", 8);
    fault("cross 0  a", 8);
    fault("cross 0 ab", 9);
    fault("cross 10 a", 7);
    fault("cu", 2);
    fault("cut", 3);
    fault("cut ", 4);
    fault("cut0", 3);
    fault("cut -1", 4);
    fault("cut :", 4);
    fault("cut /", 4);
    fault("ca", 2);
    fault("cancel", 6);
    fault("cancel 0 ", 8);
    fault("can t", 3);
    fault("relax", 5);
    fault("relax 12", 7);
    fault("decide", 6);
    fault("decide 1;dec1de 1", 12);
    fault("appeal", 6);
    fault("appeal 5,", 8);
    fault("appeal 5;b", 9);
    fault("apply", 3);
    fault("cut 0;cut 0;cut 0;cut", 21);
    fault("cut \u0660", 4);
    fault("open" + (char) 0, 4);
  }

  private static void fault(String text, int position) {
    BraidCourt court = Check.court("a");
    Check.refuses("40 " + text, IllegalArgumentException.class, () -> Check.execute(court, text));
    Check.answers("41 " + text, position, court::faultPosition);
    Check.same("40 nothing is done by " + text, 2, court.undoCount());
    Check.same("40 no denial by " + text, "a", Check.word(court, 0));
    Check.refuses("40 no denial by " + text, NoSuchElementException.class, court::denial);
  }

  private static void faultIsKept() {
    BraidCourt court = new BraidCourt();
    Check.refuses("41 none yet", NoSuchElementException.class, court::faultPosition);
    Check.refuses("40 wrong", IllegalArgumentException.class, () -> Check.execute(court, "opus"));
    Check.execute(court, "open");
    Check.answers("41 kept behind a good text", 2, court::faultPosition);
    Check.refuses("40 denied", UnsupportedOperationException.class,
        () -> Check.execute(court, "cut 0"));
    Check.answers("41 kept behind a failed text", 2, court::faultPosition);
    court.undo();
    Check.answers("41 kept behind undo", 2, court::faultPosition);
  }

  private static void longTexts() {
    BraidCourt court = new BraidCourt();
    String tenCuts = "cut 0;cut 0;cut 0;cut 0;cut 0;cut 0;cut 0;cut 0;cut 0;cut 0";
    Check.denies("40 ten commands", court, "7 0 8", () -> Check.execute(court, tenCuts));
    String twelveOpens = "open;open;open;open;open;open;open;open;open;open;open;open";
    Check.denies("40 twelve commands", court, "7 8 1", () -> Check.execute(court, twelveOpens));
    Check.refuses("40 sixty characters", IllegalArgumentException.class,
        () -> Check.execute(court, twelveOpens + ";"));
    Check.answers("41 sixty characters", 60, court::faultPosition);
    Check.same("40 no case is open", 0, court.caseCount());
    BraidCourt one = Check.court("", "");
    String sixty = "cross 0 a;cross 0 b;cross 0 c;cross 0 d;cancel 0;decide 0;op";
    Check.refuses("40 sixty characters, cut off", IllegalArgumentException.class,
        () -> Check.execute(one, sixty));
    Check.answers("41 cut off", 60, one::faultPosition);
    String full = "cross 1 a;cross 1 b;cross 1 C;decide 1;cancel 0;open;relax 0";
    Check.answers("40 exactly sixty characters", 7, () -> Check.execute(one, full));
    Check.same("40 its word", "abC", Check.word(one, 1));
  }

  private static void writeCase() {
    BraidCourt court = Check.court("abAcD", "", "a", "abcdABCDabcdABCD");
    Check.answers("42 undecided", 7, () -> court.writeCase(0));
    Check.same("42 the line", "abAcD:?", Check.line(court, 7));
    Check.answers("42 sixteen letters", 18, () -> court.writeCase(3));
    Check.same("42 its line", "abcdABCDabcdABCD:?", Check.line(court, 18));
    court.decide(1);
    court.decide(2);
    Check.answers("42 freed", 2, () -> court.writeCase(1));
    Check.same("42 the line of a freed case", ":f", Check.line(court, 2));
    Check.answers("42 tangled", 3, () -> court.writeCase(2));
    Check.same("42 the line of a tangled case", "a:t", Check.line(court, 3));
    for (int number : new int[] {-1, 4, Integer.MIN_VALUE, Integer.MAX_VALUE}) {
      Check.refuses("42 no case", IndexOutOfBoundsException.class, () -> court.writeCase(number));
    }
    Check.same("42 the line stays", "a:t", Check.line(court, 3));
  }

  private static void writeRelaxed() {
    BraidCourt court = Check.court("abA", "aA", "aBaBCDDDCCbbbAba");
    Check.answers("43 writeRelaxed", 3, () -> court.writeRelaxed(0));
    Check.same("43 the line", "Bab", Check.line(court, 3));
    Check.same("43 the case does not change", "abA", Check.word(court, 0));
    for (int number : new int[] {-1, 3, Integer.MIN_VALUE, Integer.MAX_VALUE}) {
      Check.refuses("43 no case", IndexOutOfBoundsException.class,
          () -> court.writeRelaxed(number));
    }
    Check.same("43 the line stays", "Bab", Check.line(court, 3));
    Check.answers("43 a long line", 40, () -> court.writeRelaxed(2));
    Check.same("43 its line", PlainCourt.relaxed("aBaBCDDDCCbbbAba"), Check.line(court, 40));
    Check.answers("43 an empty line", 0, () -> court.writeRelaxed(1));
    Check.refuses("44 of an empty line", IndexOutOfBoundsException.class,
        () -> court.lineCharacter(0));
  }

  private static void lineCharacter() {
    BraidCourt court = Check.court("abAcD");
    Check.refuses("44 before any line", IndexOutOfBoundsException.class,
        () -> court.lineCharacter(0));
    court.writeCase(0);
    Check.same("44 the first", 'a', court.lineCharacter(0));
    Check.same("44 the last", '?', court.lineCharacter(6));
    for (int index : new int[] {-1, 7, 400, Integer.MIN_VALUE, Integer.MAX_VALUE}) {
      Check.refuses("44 index " + index, IndexOutOfBoundsException.class,
          () -> court.lineCharacter(index));
    }
    court.undo();
    Check.same("44 undo leaves the line", 'D', court.lineCharacter(4));
  }
}
