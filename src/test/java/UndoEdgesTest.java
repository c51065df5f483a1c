/** Undo and snapshots at their edges: each method tests one sentence of the document. */
final class UndoEdgesTest {
  private static final Class<IllegalStateException> NONE = IllegalStateException.class;

  private UndoEdgesTest() {
  }

  static void run() {
    nothingToUndo();
    changesAreUndone();
    changesThatAlterNothing();
    refusedCallsAreNoChanges();
    otherCallsAreNoChanges();
    sevenEightNine();
    aroundTheRing();
    eightTexts();
    undoIsNoChange();
    undoOfPrecedents();
    leavesTheText();
    leavesTheFault();
    leavesTheLine();
    leavesTheDenial();
    noSnapshot();
    snapshotOfNothing();
    snapshotOfEverything();
    snapshotIsReplaced();
    snapshotIsKept();
    snapshotAndChanges();
    nothingToUndoAfterRestore();
  }

  /** "Throws IllegalStateException if there is none". */
  private static void nothingToUndo() {
    Still.refuses("48 a new court", NONE, BraidCourt::new, BraidCourt::undo);
    Still.Past past = () -> {
      BraidCourt court = Still.busyWithText("a", "b");
      for (int i = court.undoCount(); i > 0; i--) {
        court.undo();
      }
      return court;
    };
    Still.refuses("48 all is undone", NONE, past, BraidCourt::undo);
  }

  private static void undone(String what, Still.Past past, Still.Refused change) {
    BraidCourt court = past.make();
    String before = Still.look(court);
    int count = court.undoCount();
    change.call(court);
    Check.same("49 " + what, count + 1, court.undoCount());
    Check.answers("48 " + what, count, court::undo);
    Check.same("48 after " + what, before, Still.look(court));
  }

  /** "The calls of the methods to which commands correspond, and of execute, ...". */
  private static void changesAreUndone() {
    Still.Past past = () -> {
      BraidCourt court = Check.court("aAbaB", "a");
      court.decide(1);
      court.saveSnapshot();
      court.restoreSnapshot();
      return court;
    };
    undone("openCase", past, BraidCourt::openCase);
    undone("cross", past, c -> c.cross(0, 'd'));
    undone("cutLast", past, c -> c.cutLast(0));
    undone("cancel", past, c -> c.cancel(0));
    undone("relax", past, c -> c.relax(0));
    undone("decide", past, c -> c.decide(0));
    undone("appeal", past, c -> c.appeal(1));
    undone("execute", past, c -> Check.execute(c, "open;relax 0;decide 0;appeal 1"));
    undone("execute of one command", past, c -> Check.execute(c, "cut 0"));
  }

  /** They are changes if they "do not throw an exception", whatever they alter. */
  private static void changesThatAlterNothing() {
    Still.Past past = () -> {
      BraidCourt court = Check.court("ab", "A");
      court.decide(1);
      return court;
    };
    undone("cancel without pairs", past, c -> c.cancel(0));
    undone("relax without handles", past, c -> c.relax(0));
    undone("a text that alters nothing", past, c -> Check.execute(c, "cancel 0;relax 0"));
    undone("an appeal that does not succeed", past, c -> c.appeal(1));
  }

  /** Calls that throw an exception are no changes, denied ones neither. */
  private static void refusedCallsAreNoChanges() {
    Still.Past past = () -> {
      BraidCourt court = Still.busy("", "a", "AbCCDcBcba", "abcdabcdabcdabcd", "", "", "", "");
      court.decide(1);
      return court;
    };
    Still.denies("49 openCase", "1 8 -", past, BraidCourt::openCase);
    Still.denies("49 cross", "1 16 -", past, c -> c.cross(3, 'a'));
    Still.denies("49 cutLast", "4 0 -", past, c -> c.cutLast(0));
    Still.denies("49 cancel", "2 0 -", past, c -> c.cancel(1));
    Still.denies("49 relax", "5 10 -", past, c -> c.relax(2));
    Still.denies("49 decide", "2 0 -", past, c -> c.decide(1));
    Still.denies("49 appeal", "3 0 -", past, c -> c.appeal(0));
    Still.fails("49 execute", "7 1 4", past, "cut 2;cut 0");
    Still.misfits("49 execute", 5, past, "cut 2,cut 0");
  }

  /** All other calls are no changes. */
  private static void otherCallsAreNoChanges() {
    BraidCourt court = Check.court("abA", "");
    court.decide(1);
    int count = court.undoCount();
    court.caseCount();
    court.hasHandle(0);
    court.relaxedLength(0);
    court.findPrecedent(1);
    court.caseByBraid(0);
    court.isConsistent();
    court.feed('x');
    court.writeCase(0);
    court.writeRelaxed(0);
    court.saveSnapshot();
    Check.same("49 no changes", count, court.undoCount());
  }

  /** "The latest 8 changes can be undone; older ones are forgotten." */
  private static void sevenEightNine() {
    for (int changes = 7; changes <= 10; changes++) {
      BraidCourt court = new BraidCourt();
      court.openCase();
      for (int i = 1; i < changes; i++) {
        court.cross(0, 'a');
      }
      int left = Math.min(changes, 8);
      Check.same("49 of " + changes, left, court.undoCount());
      for (int i = left - 1; i >= 0; i--) {
        Check.answers("48 of " + changes, i, court::undo);
        Check.same("49 of " + changes, i, court.undoCount());
      }
      Check.refuses("48 of " + changes, NONE, court::undo);
      Check.same("48 cases after " + changes, changes > 8 ? 1 : 0, court.caseCount());
      if (changes > 8) {
        Check.same("48 letters after " + changes, changes - 9, court.wordLength(0));
      }
    }
  }

  /** "The latest 8 changes": also after many more, undone and made again in between. */
  private static void aroundTheRing() {
    BraidCourt court = Check.court("");
    StringBuilder word = new StringBuilder();
    for (int round = 0; round < 5; round++) {
      for (int i = 0; i < 4; i++) {
        char letter = "abcdABCD".charAt((3 * round + i) % 8);
        court.cross(0, letter);
        word.append(letter);
      }
      for (int i = 0; i < 2; i++) {
        court.undo();
        word.setLength(word.length() - 1);
        Check.same("48 round " + round, word.toString(), Check.word(court, 0));
      }
    }
    Check.same("49 six are left", 6, court.undoCount());
    for (int i = 5; i >= 0; i--) {
      Check.answers("48 one of the six", i, court::undo);
      word.setLength(word.length() - 1);
      Check.same("48 one of the six", word.toString(), Check.word(court, 0));
    }
    Check.refuses("48 the seventh", NONE, court::undo);
    Check.same("48 four letters stay", 4, court.wordLength(0));
  }

  /** A text is one change: eight texts can be undone, nine can not. */
  private static void eightTexts() {
    BraidCourt court = Check.court("");
    for (int i = 0; i < 9; i++) {
      Check.execute(court, i % 2 == 0 ? "cross 0 a;cross 0 b;cross 0 c" : "cut 0;cut 0");
    }
    Check.same("48 nine texts", 7, court.wordLength(0));
    int[] lengths = {4, 6, 3, 5, 2, 4, 1, 3};
    for (int i = 0; i < 8; i++) {
      Check.answers("48 a text", 7 - i, court::undo);
      Check.same("48 the letters", lengths[i], court.wordLength(0));
    }
    Check.refuses("48 the first text", NONE, court::undo);
  }

  /** An undo can not be undone, and is no change. */
  private static void undoIsNoChange() {
    BraidCourt court = Check.court("ab");
    Check.answers("48 b", 2, court::undo);
    Check.answers("48 a", 1, court::undo);
    Check.same("48 the word", 0, court.wordLength(0));
    Check.answers("48 the case", 0, court::undo);
    Check.same("48 no case", 0, court.caseCount());
  }

  /** Precedents that are undone are gone, and their numbers are given again. */
  private static void undoOfPrecedents() {
    BraidCourt court = Check.court("a", "b", "a");
    court.decide(0);
    court.decide(2);
    court.undo();
    court.undo();
    Check.same("48 no precedent", 0, court.precedentCount());
    court.decide(1);
    Check.same("29 the number again", 0, court.precedentOf(1));
    Check.same("33 casesOn", 1, court.casesOn(0));
    Check.refuses("30 the old one", java.util.NoSuchElementException.class,
        () -> court.findPrecedent(2));
    Check.answers("25 a new one", true, () -> court.decide(2));
    Check.same("29 its number", 1, court.precedentOf(2));
    Check.answers("48 it is undone", 7, court::undo);
    Check.same("31 one precedent", 1, court.precedentCount());
    Check.same("33 its case stays", 1, court.casesOn(0));
  }

  private static BraidCourt changed(String word, boolean byUndo) {
    BraidCourt court = Check.court(word);
    if (byUndo) {
      court.cross(0, 'd');
    } else {
      court.saveSnapshot();
    }
    return court;
  }

  private static void back(BraidCourt court, boolean byUndo) {
    if (byUndo) {
      court.undo();
    } else {
      court.restoreSnapshot();
    }
  }

  /** "The text buffer ... affected neither by undo nor by snapshots." */
  private static void leavesTheText() {
    for (boolean byUndo : new boolean[] {true, false}) {
      BraidCourt court = changed("a", byUndo);
      court.feed('o');
      court.feed('p');
      back(court, byUndo);
      Check.answers("48 the text buffer " + byUndo, 3, () -> court.feed('e'));
      Check.answers("48 its text " + byUndo, 1, () -> Check.execute(court, "n"));
      court.saveSnapshot();
      Check.answers("51 it stays empty " + byUndo, 1, () -> court.feed('o'));
      back(court, byUndo);
      Check.answers("51 and what is fed stays " + byUndo, 2, () -> court.feed('p'));
    }
  }

  /** "the fault position ... affected neither by undo nor by snapshots." */
  private static void leavesTheFault() {
    for (boolean byUndo : new boolean[] {true, false}) {
      BraidCourt court = changed("a", byUndo);
      back(court, byUndo);
      Check.same("41 none yet " + byUndo, "none", Still.fault(court));
      BraidCourt other = changed("a", byUndo);
      Check.refuses("40 wrong", IllegalArgumentException.class,
          () -> Check.execute(other, "cux"));
      back(other, byUndo);
      Check.same("41 it is kept " + byUndo, "2", Still.fault(other));
    }
  }

  /** "the output line ... affected neither by undo nor by snapshots." */
  private static void leavesTheLine() {
    for (boolean byUndo : new boolean[] {true, false}) {
      BraidCourt court = changed("abA", byUndo);
      court.writeCase(0);
      String line = byUndo ? "abAd:?" : "abA:?";
      back(court, byUndo);
      Check.same("44 the line " + byUndo, line, Check.line(court, line.length()));
      Check.refuses("44 its end " + byUndo, IndexOutOfBoundsException.class,
          () -> court.lineCharacter(line.length()));
    }
  }

  /** "the latest denial are affected neither by undo nor by snapshots." */
  private static void leavesTheDenial() {
    for (boolean byUndo : new boolean[] {true, false}) {
      BraidCourt court = changed("a", byUndo);
      back(court, byUndo);
      Check.same("45 none yet " + byUndo, "none", Still.denial(court));
      BraidCourt other = changed("a", byUndo);
      Check.denies("45 denied", other, "7 0 3", () -> Check.execute(other, "appeal 0"));
      back(other, byUndo);
      Check.same("45 it is kept " + byUndo, "7 0 3", Still.denial(other));
    }
  }

  /** "Throws IllegalStateException if there is no snapshot". */
  private static void noSnapshot() {
    Still.refuses("51 a new court", NONE, BraidCourt::new, BraidCourt::restoreSnapshot);
    Still.Past past = () -> {
      BraidCourt court = Check.court("aba", "bab", "");
      court.decide(0);
      court.decide(1);
      court.appeal(0);
      return court;
    };
    Still.refuses("51 with cases", NONE, past, BraidCourt::restoreSnapshot);
  }

  /** "Returns the number of cases": none. */
  private static void snapshotOfNothing() {
    BraidCourt court = new BraidCourt();
    Check.answers("50 of nothing", 0, court::saveSnapshot);
    court.openCase();
    court.cross(0, 'a');
    court.decide(0);
    Check.answers("51 of nothing", 0, court::restoreSnapshot);
    Check.same("51 no cases", 0, court.caseCount());
    Check.same("51 no precedents", 0, court.precedentCount());
    Check.answers("2 the first case", 0, court::openCase);
    Check.same("8 it is empty", 0, court.wordLength(0));
    Check.same("27 it is undecided", false, court.isDecided(0));
  }

  /** "Saves a snapshot of everything that changes can change": of a full court. */
  private static void snapshotOfEverything() {
    String full = "abcdABCDabcdABCD";
    BraidCourt court = Check.court(full, "aba", "bab", "", "A", "b", "", "dcba");
    for (int number : new int[] {1, 2, 4, 5, 3}) {
      court.decide(number);
    }
    court.appeal(2);
    court.appeal(4);
    String before = Still.look(court).replace("undo 8", "undo 0");
    Check.answers("50 of eight cases", 8, court::saveSnapshot);
    court.cutLast(0);
    court.cross(6, 'D');
    court.decide(7);
    court.appeal(5);
    court.decide(6);
    Check.answers("51 of eight cases", 8, court::restoreSnapshot);
    Check.same("51 all is as it was", before, Still.look(court));
    BraidCourt fresh = Check.court("a");
    fresh.decide(0);
    fresh.saveSnapshot();
    fresh.undo();
    fresh.undo();
    fresh.undo();
    Check.answers("51 of more cases than there are", 1, fresh::restoreSnapshot);
    Check.answers("30 its precedent is there", 0, () -> fresh.findPrecedent(0));
    Check.answers("26 its precedent can be appealed against", 1, () -> fresh.appeal(0));
  }

  /** "it replaces an earlier snapshot". */
  private static void snapshotIsReplaced() {
    BraidCourt court = Check.court("a");
    Check.answers("50 the first", 1, court::saveSnapshot);
    court.openCase();
    court.cross(1, 'b');
    Check.answers("50 the second", 2, court::saveSnapshot);
    court.cutLast(1);
    court.openCase();
    Check.answers("51 the second", 2, court::restoreSnapshot);
    Check.same("51 its word", "b", Check.word(court, 1));
  }

  /** "Restores the snapshot, which is kept." */
  private static void snapshotIsKept() {
    BraidCourt court = Check.court("a");
    court.saveSnapshot();
    for (int i = 0; i < 3; i++) {
      court.cross(0, 'b');
      court.decide(0);
      court.openCase();
      Check.answers("51 again " + i, 1, court::restoreSnapshot);
      Check.same("51 its word " + i, "a", Check.word(court, 0));
      Check.same("51 undecided " + i, false, court.isDecided(0));
      Check.answers("51 at once again " + i, 1, court::restoreSnapshot);
    }
  }

  /** A snapshot takes part in no undo, and undo in no snapshot. */
  private static void snapshotAndChanges() {
    BraidCourt court = Check.court("abc");
    court.saveSnapshot();
    Check.same("49 after saveSnapshot", 4, court.undoCount());
    Check.answers("48 behind the snapshot", 3, court::undo);
    Check.same("48 behind the snapshot", "ab", Check.word(court, 0));
    Check.answers("50 a new one", 1, court::saveSnapshot);
    Check.same("49 they can still be undone", 3, court.undoCount());
    court.undo();
    Check.answers("51 the new one", 1, court::restoreSnapshot);
    Check.same("51 its word", "ab", Check.word(court, 0));
  }

  /** "No change can be undone afterwards." */
  private static void nothingToUndoAfterRestore() {
    Still.Past past = () -> {
      BraidCourt court = Still.busyWithText("abc", "d");
      court.decide(0);
      court.restoreSnapshot();
      return court;
    };
    Check.same("49 after restoreSnapshot", 0, past.make().undoCount());
    Still.refuses("48 after restoreSnapshot", NONE, past, BraidCourt::undo);
    BraidCourt court = past.make();
    for (int i = 1; i <= 9; i++) {
      court.cross(0, 'a');
      Check.same("49 changes after it", Math.min(i, 8), court.undoCount());
    }
    for (int i = 7; i >= 0; i--) {
      Check.answers("48 changes after it", i, court::undo);
    }
    Check.refuses("48 no more", NONE, court::undo);
    Check.same("48 the ninth stays", "abca", Check.word(court, 0));
  }
}
