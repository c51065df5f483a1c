import java.util.NoSuchElementException;

/** Promises 14 to 24: what the words are as braids. */
final class BraidsTest {
  private static final Class<IndexOutOfBoundsException> NO_CASE = IndexOutOfBoundsException.class;
  private static final Class<IllegalArgumentException> WRONG = IllegalArgumentException.class;

  private BraidsTest() {
  }

  static void run() {
    writhe();
    strandEnd();
    closedThreads();
    crossings();
    coordinate();
    isTrivial();
    equality();
    order();
    caseByBraid();
    noSuchCase();
  }

  private static void writhe() {
    BraidCourt court = Check.court("", "abcd", "ABC", "abAAAAcD");
    int[] writhes = {0, 4, -3, -2};
    for (int i = 0; i < 4; i++) {
      Check.same("14 writhe " + i, writhes[i], court.writhe(i));
    }
  }

  private static void strandEnd() {
    BraidCourt court = Check.court("", "abcd", "DCBA", "aB", "ac");
    int[][] ends = {
      {1, 2, 3, 4, 5}, {5, 1, 2, 3, 4}, {2, 3, 4, 5, 1}, {3, 1, 2, 4, 5}, {2, 1, 4, 3, 5}
    };
    for (int i = 0; i < 5; i++) {
      for (int begin = 1; begin <= 5; begin++) {
        Check.same("15 strandEnd " + i + " " + begin, ends[i][begin - 1],
            court.strandEnd(i, begin));
      }
    }
    for (int position : new int[] {0, 6, -1, Integer.MIN_VALUE, Integer.MAX_VALUE}) {
      Check.refuses("15 position " + position, WRONG, () -> court.strandEnd(0, position));
      Check.refuses("15 no case before no position", NO_CASE, () -> court.strandEnd(5, position));
    }
  }

  private static void closedThreads() {
    BraidCourt court = Check.court("", "a", "abcd", "ac", "aba", "DCBA", "aa", "abdd");
    int[] threads = {5, 4, 1, 3, 4, 1, 5, 3};
    for (int i = 0; i < 8; i++) {
      Check.same("16 closedThreads " + i, threads[i], court.closedThreads(i));
    }
  }

  private static void crossings() {
    BraidCourt court = Check.court("aba", "aaA", "abAB", "AA");
    crossing(court, 0, 1, 2, 1);
    crossing(court, 0, 1, 3, 1);
    crossing(court, 0, 3, 2, 1);
    crossing(court, 0, 1, 4, 0);
    crossing(court, 0, 2, 2, 0);
    crossing(court, 1, 2, 1, 1);
    crossing(court, 2, 1, 2, 0);
    crossing(court, 2, 1, 3, 1);
    crossing(court, 2, 2, 3, -1);
    crossing(court, 3, 1, 2, -2);
    crossing(court, 3, 5, 5, 0);
    for (int position : new int[] {0, 6, -7, Integer.MAX_VALUE}) {
      Check.refuses("17 first " + position, WRONG, () -> court.crossings(0, position, 1));
      Check.refuses("17 second " + position, WRONG, () -> court.crossings(0, 1, position));
      Check.refuses("17 both " + position, WRONG, () -> court.crossings(0, position, position));
      Check.refuses("17 no case first", NO_CASE, () -> court.crossings(4, position, 1));
    }
  }

  private static void crossing(BraidCourt court, int number, int first, int second, int sum) {
    String what = "17 crossings " + number + " " + first + " " + second;
    Check.same(what, sum, court.crossings(number, first, second));
    Check.same(what + " exchanged", sum, court.crossings(number, second, first));
  }

  private static void coordinate() {
    BraidCourt court = Check.court("", "a", "A", "aba", "bab", "Bd");
    long[][] due = {
      {0, 1, 0, 1, 0, 1, 0, 1, 0, 1},
      {1, 0, 0, 2, 0, 1, 0, 1, 0, 1},
      {-1, 0, 0, 2, 0, 1, 0, 1, 0, 1},
      {2, 0, 1, 0, 0, 3, 0, 1, 0, 1},
      {2, 0, 1, 0, 0, 3, 0, 1, 0, 1},
      {0, 1, -1, 0, 0, 2, 1, 0, 0, 2}
    };
    for (int i = 0; i < due.length; i++) {
      for (int coordinate = 0; coordinate < 10; coordinate++) {
        Check.same("18 coordinate " + i + " " + coordinate, due[i][coordinate],
            court.coordinate(i, coordinate));
      }
    }
    for (int coordinate : new int[] {-1, 10, Integer.MIN_VALUE, Integer.MAX_VALUE}) {
      Check.refuses("18 coordinate " + coordinate, WRONG, () -> court.coordinate(0, coordinate));
      Check.refuses("18 no case first", NO_CASE, () -> court.coordinate(6, coordinate));
    }
  }

  private static void isTrivial() {
    BraidCourt court = Check.court("", "abaBAB", "abAB", "acAC", "aabbAABB", "DcdCDC");
    boolean[] trivial = {true, true, false, true, false, false};
    for (int i = 0; i < trivial.length; i++) {
      int number = i;
      Check.answers("19 isTrivial " + i, trivial[i], () -> court.isTrivial(number));
    }
    Check.same("19 the case does not change", "abaBAB", Check.word(court, 1));
  }

  private static void equality() {
    BraidCourt court = Check.court("aba", "bab", "ac", "ca", "ab", "ba", "abA", "Bab");
    for (int i = 0; i < 8; i++) {
      for (int j = 0; j < 8; j++) {
        int first = i;
        int second = j;
        boolean equal = i == j || i / 2 == j / 2 && i / 2 != 2;
        Check.answers("20 areEqual " + i + " " + j, equal, () -> court.areEqual(first, second));
        Check.answers("21 areEqualByCoordinates " + i + " " + j, equal,
            () -> court.areEqualByCoordinates(first, second));
      }
    }
  }

  private static void order() {
    // Ascending: the braids of letters with a lesser index weigh more.
    BraidCourt court = Check.court("A", "ABa", "B", "D", "", "d", "b", "a");
    for (int i = 0; i < 8; i++) {
      for (int j = 0; j < 8; j++) {
        int first = i;
        int second = j;
        int due = Integer.compare(j, i);
        Check.answers("22 compare " + i + " " + j, due, () -> court.compare(first, second));
        Check.answers("23 compareByCoordinates " + i + " " + j, due,
            () -> court.compareByCoordinates(first, second));
      }
    }
    BraidCourt same = Check.court("aba", "bab", "abA");
    Check.answers("22 compare equal braids", 0, () -> same.compare(0, 1));
    Check.answers("23 equal braids", 0, () -> same.compareByCoordinates(0, 1));
    Check.answers("22 compare the test's pair", -1, () -> same.compare(0, 2));
    Check.answers("23 the test's pair", -1, () -> same.compareByCoordinates(0, 2));
  }

  private static void caseByBraid() {
    BraidCourt court = Check.court("a", "", "bab", "A", "aba", "b", "abBA", "D");
    int[] order = {3, 7, 1, 6, 5, 0, 2, 4};
    for (int rank = 0; rank < 8; rank++) {
      int at = rank;
      Check.answers("24 caseByBraid " + rank, order[rank], () -> court.caseByBraid(at));
    }
    BraidCourt two = Check.court("a", "A");
    Check.answers("24 of two", 1, () -> two.caseByBraid(0));
    for (int rank : new int[] {-1, 2, 8, Integer.MIN_VALUE, Integer.MAX_VALUE}) {
      Check.refuses("24 rank " + rank, NoSuchElementException.class, () -> two.caseByBraid(rank));
    }
    Check.refuses("24 without cases", NoSuchElementException.class,
        () -> new BraidCourt().caseByBraid(0));
  }

  private static void noSuchCase() {
    BraidCourt court = Check.court("a", "b");
    for (int number : new int[] {-1, 2, 8, Integer.MIN_VALUE, Integer.MAX_VALUE}) {
      Check.refuses("14 writhe", NO_CASE, () -> court.writhe(number));
      Check.refuses("15 strandEnd", NO_CASE, () -> court.strandEnd(number, 1));
      Check.refuses("16 closedThreads", NO_CASE, () -> court.closedThreads(number));
      Check.refuses("17 crossings", NO_CASE, () -> court.crossings(number, 1, 2));
      Check.refuses("18 coordinate", NO_CASE, () -> court.coordinate(number, 0));
      Check.refuses("19 isTrivial", NO_CASE, () -> court.isTrivial(number));
      Check.refuses("20 areEqual first", NO_CASE, () -> court.areEqual(number, 0));
      Check.refuses("20 areEqual second", NO_CASE, () -> court.areEqual(0, number));
      Check.refuses("21 first", NO_CASE, () -> court.areEqualByCoordinates(number, 0));
      Check.refuses("21 second", NO_CASE, () -> court.areEqualByCoordinates(0, number));
      Check.refuses("21 both", NO_CASE, () -> court.areEqualByCoordinates(number, number));
      Check.refuses("22 compare first", NO_CASE, () -> court.compare(number, 0));
      Check.refuses("22 compare second", NO_CASE, () -> court.compare(0, number));
      Check.refuses("23 first", NO_CASE, () -> court.compareByCoordinates(number, 0));
      Check.refuses("23 second", NO_CASE, () -> court.compareByCoordinates(0, number));
    }
  }
}
