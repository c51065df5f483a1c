import java.util.LinkedHashMap;
import java.util.Map;
import java.util.NoSuchElementException;

/** Numbers of cases and precedents at their edges, in every call that takes one. */
final class NumberEdgesTest {
  interface Call {
    Object on(BraidCourt court, int number);
  }

  private static final Class<IndexOutOfBoundsException> NONE = IndexOutOfBoundsException.class;
  private static final int[] FAR = {
    256, 65536, 65537, Integer.MAX_VALUE, Integer.MIN_VALUE, Integer.MIN_VALUE + 1, -2, -256
  };

  private NumberEdgesTest() {
  }

  static void run() {
    noCaseWithoutCases();
    firstAndLastCase();
    noCaseBelowAndAbove();
    noCaseFarAway();
    noCaseBehindTheEighth();
    noCaseAfterUndo();
    noCaseAfterRestore();
    eitherOfTwoCases();
    noPrecedent();
    noCaseComesFirst();
  }

  /** Every call that takes the number of a case, as promises 3 to 43 list them. */
  private static Map<String, Call> calls() {
    Map<String, Call> calls = new LinkedHashMap<>();
    calls.put("3 cross", (court, number) -> court.cross(number, 'a'));
    calls.put("4 cutLast", BraidCourt::cutLast);
    calls.put("5 cancel", BraidCourt::cancel);
    calls.put("6 relax", BraidCourt::relax);
    calls.put("8 wordLength", BraidCourt::wordLength);
    calls.put("9 letterAt", (court, number) -> court.letterAt(number, 0));
    calls.put("10 hasHandle", BraidCourt::hasHandle);
    calls.put("11 handleBegin", BraidCourt::handleBegin);
    calls.put("12 handleEnd", BraidCourt::handleEnd);
    calls.put("13 relaxedLength", BraidCourt::relaxedLength);
    calls.put("14 writhe", BraidCourt::writhe);
    calls.put("15 strandEnd", (court, number) -> court.strandEnd(number, 1));
    calls.put("16 closedThreads", BraidCourt::closedThreads);
    calls.put("17 crossings", (court, number) -> court.crossings(number, 1, 2));
    calls.put("18 coordinate", (court, number) -> court.coordinate(number, 0));
    calls.put("19 isTrivial", BraidCourt::isTrivial);
    calls.put("20 areEqual, both", (court, number) -> court.areEqual(number, number));
    calls.put("21 areEqualByCoordinates, both",
        (court, number) -> court.areEqualByCoordinates(number, number));
    calls.put("22 compare, both", (court, number) -> court.compare(number, number));
    calls.put("23 compareByCoordinates, both",
        (court, number) -> court.compareByCoordinates(number, number));
    calls.put("25 decide", BraidCourt::decide);
    calls.put("26 appeal", BraidCourt::appeal);
    calls.put("27 isDecided", BraidCourt::isDecided);
    calls.put("28 isTangled", BraidCourt::isTangled);
    calls.put("29 precedentOf", BraidCourt::precedentOf);
    calls.put("30 findPrecedent", BraidCourt::findPrecedent);
    calls.put("42 writeCase", BraidCourt::writeCase);
    calls.put("43 writeRelaxed", BraidCourt::writeRelaxed);
    return calls;
  }

  /** The calls that take two cases, with the number as the first and as the second one. */
  private static Map<String, Call> callsWithTwo() {
    Map<String, Call> calls = new LinkedHashMap<>();
    calls.put("20 areEqual, first", (court, number) -> court.areEqual(number, 0));
    calls.put("20 areEqual, second", (court, number) -> court.areEqual(0, number));
    calls.put("21 first", (court, number) -> court.areEqualByCoordinates(number, 0));
    calls.put("21 second", (court, number) -> court.areEqualByCoordinates(0, number));
    calls.put("22 compare, first", (court, number) -> court.compare(number, 0));
    calls.put("22 compare, second", (court, number) -> court.compare(0, number));
    calls.put("23 first", (court, number) -> court.compareByCoordinates(number, 0));
    calls.put("23 second", (court, number) -> court.compareByCoordinates(0, number));
    return calls;
  }

  private static void refuses(String where, Map<String, Call> calls, Still.Past past, int number) {
    for (Map.Entry<String, Call> call : calls.entrySet()) {
      String what = call.getKey() + " of " + number + " " + where;
      Still.refuses(what, NONE, past, court -> call.getValue().on(court, number));
    }
  }

  /** "Throws IndexOutOfBoundsException if there is no such case": there is none at all. */
  private static void noCaseWithoutCases() {
    refuses("in a new court", calls(), BraidCourt::new, 0);
    refuses("in a new court", calls(), BraidCourt::new, -1);
    refuses("in a new court", calls(), BraidCourt::new, 1);
    refuses("in a new court", callsWithTwo(), BraidCourt::new, 0);
  }

  /** "Throws IndexOutOfBoundsException if there is no such case": the least and the greatest. */
  private static void firstAndLastCase() {
    for (Map.Entry<String, Call> call : calls().entrySet()) {
      for (int number : new int[] {0, 7}) {
        boolean decided = call.getKey().startsWith("26") || call.getKey().startsWith("29")
            || call.getKey().startsWith("30");
        BraidCourt court = Check.court("abA", "", "", "", "", "", "", "abA");
        if (decided) {
          court.decide(number);
        }
        Check.answers(call.getKey() + " of " + number + " in a full court", "answered", () -> {
          call.getValue().on(court, number);
          return "answered";
        });
      }
    }
    for (Map.Entry<String, Call> call : callsWithTwo().entrySet()) {
      BraidCourt court = Check.court("abA", "", "", "", "", "", "", "abA");
      Check.answers(call.getKey() + " is 7 in a full court", "answered", () -> {
        call.getValue().on(court, 7);
        return "answered";
      });
    }
  }

  /** "Throws IndexOutOfBoundsException if there is no such case": one too small, one too large. */
  private static void noCaseBelowAndAbove() {
    Still.Past past = () -> Still.busyWithText("abA", "c");
    refuses("with two cases", calls(), past, -1);
    refuses("with two cases", calls(), past, 2);
  }

  /** "Throws IndexOutOfBoundsException if there is no such case": no number wraps around. */
  private static void noCaseFarAway() {
    BraidCourt court = Check.court("abA", "c");
    for (int number : FAR) {
      for (Map.Entry<String, Call> call : calls().entrySet()) {
        Check.refuses(call.getKey() + " of " + number, NONE,
            () -> call.getValue().on(court, number));
      }
      for (Map.Entry<String, Call> call : callsWithTwo().entrySet()) {
        Check.refuses(call.getKey() + " " + number, NONE,
            () -> call.getValue().on(court, number));
      }
    }
    Check.same("the court after numbers far away", Still.look(Check.court("abA", "c")),
        Still.look(court));
  }

  /** "At most 8 cases exist, numbered from 0": number 8 never exists. */
  private static void noCaseBehindTheEighth() {
    Still.Past past = () -> Still.busyWithText("a", "", "", "", "", "", "", "b");
    refuses("in a full court", calls(), past, 8);
    refuses("in a full court", callsWithTwo(), past, 8);
    refuses("in a full court", calls(), past, -1);
  }

  /** A case that is opened no more is no such case. */
  private static void noCaseAfterUndo() {
    for (Map.Entry<String, Call> call : calls().entrySet()) {
      BraidCourt court = Check.court("abA", "");
      court.decide(1);
      court.undo();
      court.undo();
      Check.refuses(call.getKey() + " after undo", NONE, () -> call.getValue().on(court, 1));
    }
  }

  /** A case that the snapshot does not have is no such case. */
  private static void noCaseAfterRestore() {
    for (Map.Entry<String, Call> call : calls().entrySet()) {
      BraidCourt court = Check.court("abA");
      court.saveSnapshot();
      court.openCase();
      court.decide(1);
      court.restoreSnapshot();
      Check.refuses(call.getKey() + " after restore", NONE, () -> call.getValue().on(court, 1));
    }
  }

  /** "Throws IndexOutOfBoundsException if there is no such case, for either". */
  private static void eitherOfTwoCases() {
    Still.Past past = () -> Still.busyWithText("abA", "c");
    refuses("with two cases", callsWithTwo(), past, -1);
    refuses("with two cases", callsWithTwo(), past, 2);
  }

  /** "Throws IndexOutOfBoundsException if there is no such precedent". */
  private static void noPrecedent() {
    Map<String, Call> calls = new LinkedHashMap<>();
    calls.put("32 isAppealed", BraidCourt::isAppealed);
    calls.put("33 casesOn", BraidCourt::casesOn);
    refuses("in a new court", calls, BraidCourt::new, 0);
    refuses("without precedents", calls, () -> Still.busyWithText("a", "b"), 0);
    Still.Past past = () -> {
      BraidCourt court = Still.busyWithText("a", "b", "a", "");
      court.decide(1);
      court.decide(0);
      court.decide(2);
      return court;
    };
    refuses("with two precedents", calls, past, -1);
    refuses("with two precedents", calls, past, 2);
    BraidCourt court = past.make();
    for (int precedent : FAR) {
      Check.refuses("32 isAppealed of " + precedent, NONE, () -> court.isAppealed(precedent));
      Check.refuses("33 casesOn of " + precedent, NONE, () -> court.casesOn(precedent));
    }
    Check.answers("32 isAppealed of the first", false, () -> court.isAppealed(0));
    Check.answers("32 isAppealed of the last", false, () -> court.isAppealed(1));
    Check.answers("33 casesOn the first", 1, () -> court.casesOn(0));
    Check.answers("33 casesOn the last", 2, () -> court.casesOn(1));
    court.undo();
    court.undo();
    Check.refuses("32 isAppealed after undo", NONE, () -> court.isAppealed(1));
    Check.refuses("33 casesOn after undo", NONE, () -> court.casesOn(1));
  }

  /** "If the conditions of several exceptions hold, the one that is documented first is thrown." */
  private static void noCaseComesFirst() {
    BraidCourt court = Check.court("ab");
    Check.refuses("3 no case, no letter", NONE, () -> court.cross(1, 'e'));
    Check.refuses("9 no case, no position", NONE, () -> court.letterAt(1, 2));
    Check.refuses("9 no case, position -1", NONE, () -> court.letterAt(-1, -1));
    Check.refuses("15 no case, no position", NONE, () -> court.strandEnd(1, 6));
    Check.refuses("17 no case, no first position", NONE, () -> court.crossings(1, 0, 1));
    Check.refuses("17 no case, no second position", NONE, () -> court.crossings(1, 1, 6));
    Check.refuses("18 no case, no coordinate", NONE, () -> court.coordinate(1, 10));
    Check.refuses("11 no case, no handle", NONE, () -> court.handleBegin(1));
    Check.refuses("29 no case, undecided", NONE, () -> court.precedentOf(1));
    Check.refuses("no denial for a missing case", NoSuchElementException.class, court::denial);
  }
}
