/** Promises 48 to 51: undo and snapshots. */
final class UndoTest {
  private static final Class<IllegalStateException> NONE = IllegalStateException.class;

  private UndoTest() {
  }

  static void run() {
    nothingToUndo();
    eachChange();
    eightChanges();
    noChanges();
    undoOfText();
    untouched();
    snapshots();
    snapshotAndUndo();
    snapshotOfPrecedents();
  }

  private static void nothingToUndo() {
    BraidCourt court = new BraidCourt();
    Check.refuses("48 nothing to undo", NONE, court::undo);
    Check.same("49 undoCount", 0, court.undoCount());
    court.openCase();
    Check.answers("48 undo", 0, court::undo);
    Check.same("48 no case is left", 0, court.caseCount());
    Check.refuses("48 nothing is left to undo", NONE, court::undo);
  }

  private static void eachChange() {
    BraidCourt court = Check.court("Aba");
    court.relax(0);
    court.cutLast(0);
    court.cross(0, 'A');
    court.cancel(0);
    court.decide(0);
    court.appeal(0);
    Check.same("49 undoCount", 8, court.undoCount());
    Check.same("48 before", "b tangled=false appealed=true", look(court));
    undoTo(court, 7, "b tangled=true appealed=false");
    undoTo(court, 6, "b undecided");
    undoTo(court, 5, "baA undecided");
    undoTo(court, 4, "ba undecided");
    undoTo(court, 3, "baB undecided");
    undoTo(court, 2, "Aba undecided");
    undoTo(court, 1, "Ab undecided");
    undoTo(court, 0, "A undecided");
    Check.refuses("48 older changes are forgotten", NONE, court::undo);
    Check.same("48 no precedent is left", 0, court.precedentCount());
  }

  private static void undoTo(BraidCourt court, int count, String due) {
    Check.answers("48 undo to " + due, count, court::undo);
    Check.same("48 after undo", due, look(court));
    Check.same("49 undoCount after undo", count, court.undoCount());
  }

  private static String look(BraidCourt court) {
    String word = Check.word(court, 0);
    if (!court.isDecided(0)) {
      return word + " undecided";
    }
    return word + " tangled=" + court.isTangled(0) + " appealed=" + court.isAppealed(0);
  }

  private static void eightChanges() {
    BraidCourt court = Check.court("");
    for (int i = 0; i < 12; i++) {
      court.cross(0, 'a');
      Check.same("49 undoCount after cross " + i, Math.min(i + 2, 8), court.undoCount());
    }
    for (int i = 7; i >= 4; i--) {
      Check.answers("48 undo", i, court::undo);
    }
    Check.same("48 four are undone", 8, court.wordLength(0));
    court.cross(0, 'b');
    Check.same("49 a change behind undo", 5, court.undoCount());
    for (int i = 4; i >= 0; i--) {
      Check.answers("48 undo the rest", i, court::undo);
    }
    Check.same("48 eight before the latest", 4, court.wordLength(0));
    Check.refuses("48 nothing left", NONE, court::undo);
  }

  private static void noChanges() {
    BraidCourt court = Check.court("", "");
    Check.refuses("a denied call", UnsupportedOperationException.class, () -> court.cutLast(0));
    Check.refuses("a call for no case", IndexOutOfBoundsException.class, () -> court.cutLast(3));
    Check.refuses("a wrong text", IllegalArgumentException.class, court::execute);
    Check.refuses("a failed text", UnsupportedOperationException.class,
        () -> Check.execute(court, "open;cut 0"));
    court.caseByBraid(0);
    court.writeCase(0);
    court.saveSnapshot();
    Check.same("49 these are no changes", 2, court.undoCount());
    court.cancel(0);
    court.relax(0);
    court.decide(0);
    court.appeal(0);
    Check.same("49 a call that alters nothing is a change", 6, court.undoCount());
  }

  private static void undoOfText() {
    BraidCourt court = Check.court("");
    Check.execute(court, "cross 0 a;cross 0 b;decide 0;open");
    Check.same("49 a text is one change", 2, court.undoCount());
    Check.answers("48 undo of a text", 1, court::undo);
    Check.same("48 its letters are gone", 0, court.wordLength(0));
    Check.same("48 its case is gone", 1, court.caseCount());
    Check.same("48 its verdict is gone", false, court.isDecided(0));
  }

  private static void untouched() {
    BraidCourt court = Check.court("a");
    court.feed('o');
    court.feed('p');
    court.writeCase(0);
    court.undo();
    Check.answers("48 undo leaves the text buffer", 3, () -> court.feed('e'));
    Check.same("48 undo leaves the line", "a:?", Check.line(court, 3));
    court.saveSnapshot();
    court.feed('n');
    court.restoreSnapshot();
    Check.answers("51 restoreSnapshot leaves the text buffer", 1, court::execute);
    Check.same("51 restoreSnapshot leaves the line", "a:?", Check.line(court, 3));
  }

  private static void snapshots() {
    BraidCourt court = new BraidCourt();
    Check.refuses("51 no snapshot", NONE, court::restoreSnapshot);
    Check.same("50 saveSnapshot of nothing", 0, court.saveSnapshot());
    court.openCase();
    court.cross(0, 'a');
    court.decide(0);
    Check.same("50 saveSnapshot", 1, court.saveSnapshot());
    court.appeal(0);
    court.openCase();
    Check.answers("51 restoreSnapshot", 1, court::restoreSnapshot);
    Check.same("51 the verdict", true, court.isTangled(0));
    Check.same("51 the appeal", false, court.isAppealed(0));
    Check.same("51 no change can be undone", 0, court.undoCount());
    Check.refuses("51 undo", NONE, court::undo);
    court.appeal(0);
    Check.answers("51 it is kept", 1, court::restoreSnapshot);
    Check.same("51 the verdict again", true, court.isTangled(0));
    court.openCase();
    Check.same("49 changes behind it", 1, court.undoCount());
  }

  private static void snapshotAndUndo() {
    BraidCourt court = Check.court("a");
    court.saveSnapshot();
    court.cross(0, 'b');
    court.undo();
    court.undo();
    court.undo();
    Check.same("48 behind the snapshot", 0, court.caseCount());
    Check.answers("51 undo leaves the snapshot", 1, court::restoreSnapshot);
    Check.same("51 its word", "a", Check.word(court, 0));
    court.cross(0, 'c');
    Check.same("51 a change leaves the snapshot", 1, court.restoreSnapshot());
    Check.same("51 its word again", "a", Check.word(court, 0));
  }

  private static void snapshotOfPrecedents() {
    BraidCourt court = Check.court("a", "b");
    court.decide(0);
    court.saveSnapshot();
    court.undo();
    court.decide(1);
    court.restoreSnapshot();
    Check.answers("51 the precedent has its braid again", 0, () -> court.findPrecedent(0));
    Check.refuses("51 and not the later one", java.util.NoSuchElementException.class,
        () -> court.findPrecedent(1));
    Check.same("51 the case rests on it", 0, court.precedentOf(0));
    Check.same("51 the other case is undecided", false, court.isDecided(1));
  }
}
