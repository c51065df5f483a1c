import java.util.NoSuchElementException;

/** Words as braids at their edges: each method tests one sentence of the document. */
final class BraidEdgesTest {
  private static final Class<IllegalArgumentException> WRONG = IllegalArgumentException.class;
  private static final Class<NoSuchElementException> NO_ELEMENT = NoSuchElementException.class;
  private static final int[] FAR = {256, 257, 65537, Integer.MAX_VALUE, Integer.MIN_VALUE,
      Integer.MIN_VALUE + 1, -2, -255};

  private BraidEdgesTest() {
  }

  static void run() {
    crossedPositions();
    noSuchPosition();
    noSuchPositionOfCrossings();
    writhes();
    threads();
    crossingsOfOneStrand();
    crossingsOfTwoStrands();
    emptyWordsCoordinates();
    coordinatesOfEachLetter();
    coordinatesOfSixteenLetters();
    noSuchCoordinate();
    emptyWordIsTrivial();
    trivialWords();
    insertedPairs();
    exchangedLetters();
    replacedTriples();
    sameCaseTwice();
    inverseOfTheFirst();
    signOfTrivial();
    signByLeastIndex();
    productsOfThirtyTwoLetters();
    ranks();
    ranksOfEqualBraids();
    noSuchRank();
    queriesChangeNothing();
  }

  /** "The letters a, b, c and d are crossings of the strands at the positions 1 and 2, ..." */
  private static void crossedPositions() {
    for (char letter : "abcdABCD".toCharArray()) {
      BraidCourt court = Check.court("" + letter);
      int index = PlainCourt.index(letter);
      for (int position = 1; position <= 5; position++) {
        int end = position == index ? index + 1 : position == index + 1 ? index : position;
        Check.same("15 strandEnd of " + letter + " " + position, end,
            court.strandEnd(0, position));
      }
    }
    BraidCourt court = Check.court("abcdabcdabcdabcd", "dcbaDCBAdcbaDCBA", "");
    int[][] ends = {{2, 3, 4, 5, 1}, {5, 1, 2, 3, 4}, {1, 2, 3, 4, 5}};
    for (int number = 0; number < 3; number++) {
      for (int position = 1; position <= 5; position++) {
        Check.same("15 strandEnd of sixteen letters", ends[number][position - 1],
            court.strandEnd(number, position));
      }
    }
  }

  /** "the position at which the strand begins, 1 to 5". */
  private static void noSuchPosition() {
    Still.Past past = () -> Still.busyWithText("", "abcd");
    Still.refuses("15 position 0", WRONG, past, c -> c.strandEnd(0, 0));
    Still.refuses("15 position 6", WRONG, past, c -> c.strandEnd(1, 6));
    Still.refuses("15 position -1", WRONG, past, c -> c.strandEnd(1, -1));
    BraidCourt court = past.make();
    for (int position : FAR) {
      Check.refuses("15 position " + position, WRONG, () -> court.strandEnd(1, position));
    }
    Check.answers("15 position 1", 5, () -> court.strandEnd(1, 1));
    Check.answers("15 position 5", 4, () -> court.strandEnd(1, 5));
  }

  /** "Throws IllegalArgumentException if there is no such position, for either". */
  private static void noSuchPositionOfCrossings() {
    Still.Past past = () -> Still.busyWithText("", "abcd");
    for (int position : new int[] {0, 6, -1}) {
      Still.refuses("17 first " + position, WRONG, past, c -> c.crossings(1, position, 1));
      Still.refuses("17 second " + position, WRONG, past, c -> c.crossings(1, 5, position));
      Still.refuses("17 both " + position, WRONG, past, c -> c.crossings(1, position, position));
      Still.refuses("17 of no letter " + position, WRONG, past,
          c -> c.crossings(0, position, position));
    }
    BraidCourt court = past.make();
    for (int position : FAR) {
      Check.refuses("17 first " + position, WRONG, () -> court.crossings(1, position, 2));
      Check.refuses("17 second " + position, WRONG, () -> court.crossings(1, 2, position));
    }
    Check.answers("17 positions 1 and 5", 1, () -> court.crossings(1, 1, 5));
    Check.answers("17 positions 5 and 1", 1, () -> court.crossings(1, 5, 1));
  }

  /** "The writhe of a word is the sum of the signs of its letters": from -16 to 16. */
  private static void writhes() {
    BraidCourt court = Check.court("", "aaaabbbbccccdddd", "DDDDCCCCBBBBAAAA",
        "aAaAaAaAaAaAaAaA", "a", "D", "abcD", "aaaaaaaAAAAAAAAA");
    int[] writhes = {0, 16, -16, 0, 1, -1, 2, -2};
    for (int i = 0; i < writhes.length; i++) {
      Check.same("14 writhe " + i, writhes[i], court.writhe(i));
    }
  }

  /** "the number of cycles of its permutation, also those of one strand ... 1 to 5". */
  private static void threads() {
    BraidCourt court = Check.court("", "a", "ab", "abc", "abcd", "abcdabcdabcdabcd", "acd",
        "AAbbCCdd");
    int[] threads = {5, 4, 3, 2, 1, 1, 2, 5};
    for (int i = 0; i < threads.length; i++) {
      Check.same("16 closedThreads " + i, threads[i], court.closedThreads(i));
    }
    BraidCourt cycles = Check.court("ac", "bd", "ad", "abd", "acbadc");
    int[] more = {3, 3, 3, 2, 3};
    for (int i = 0; i < more.length; i++) {
      Check.same("16 closedThreads again " + i, more[i], cycles.closedThreads(i));
    }
  }

  /** "Returns the sum, 0 if both are the same." */
  private static void crossingsOfOneStrand() {
    BraidCourt court = Check.court("", "aaaaaaaaaaaaaaaa", "abcdabcdabcdabcd", "DDDDDD");
    for (int number = 0; number < 4; number++) {
      for (int position = 1; position <= 5; position++) {
        Check.same("17 crossings of " + position + " with itself", 0,
            court.crossings(number, position, position));
      }
    }
  }

  /** "the sum of the signs of the letters at which two strands of a case cross each other". */
  private static void crossingsOfTwoStrands() {
    BraidCourt court = Check.court("aaaaaaaaaaaaaaaa", "DDDDDDDDDDDDDDDD", "aA", "abcdDCBA",
        "aBBBBA", "abcd");
    Check.same("17 sixteen", 16, court.crossings(0, 1, 2));
    Check.same("17 sixteen, exchanged", 16, court.crossings(0, 2, 1));
    Check.same("17 none", 0, court.crossings(0, 2, 3));
    Check.same("17 minus sixteen", -16, court.crossings(1, 4, 5));
    Check.same("17 one of each sign", 0, court.crossings(2, 1, 2));
    Check.same("17 there and back", 0, court.crossings(3, 1, 5));
    Check.same("17 by their beginnings, not their places", -4, court.crossings(4, 1, 3));
    Check.same("17 where they cross, but not each other", 0, court.crossings(4, 2, 3));
    for (int position = 2; position <= 5; position++) {
      Check.same("17 the strand that crosses all", 1, court.crossings(5, 1, position));
    }
  }

  private static void coordinates(String word, long... due) {
    BraidCourt court = Check.court(word);
    for (int i = 0; i < 10; i++) {
      int coordinate = i;
      Check.answers("18 coordinate " + i + " of " + word, due[i],
          () -> court.coordinate(0, coordinate));
    }
  }

  /** "Those of the empty word are 0, 1, 0, 1, 0, 1, 0, 1, 0, 1." */
  private static void emptyWordsCoordinates() {
    coordinates("", 0, 1, 0, 1, 0, 1, 0, 1, 0, 1);
    coordinates("aA", 0, 1, 0, 1, 0, 1, 0, 1, 0, 1);
    coordinates("dcbaABCD", 0, 1, 0, 1, 0, 1, 0, 1, 0, 1);
  }

  /** "They change with each letter": the coordinates of its index and of the next one. */
  private static void coordinatesOfEachLetter() {
    coordinates("a", 1, 0, 0, 2, 0, 1, 0, 1, 0, 1);
    coordinates("b", 0, 1, 1, 0, 0, 2, 0, 1, 0, 1);
    coordinates("c", 0, 1, 0, 1, 1, 0, 0, 2, 0, 1);
    coordinates("d", 0, 1, 0, 1, 0, 1, 1, 0, 0, 2);
    coordinates("A", -1, 0, 0, 2, 0, 1, 0, 1, 0, 1);
    coordinates("B", 0, 1, -1, 0, 0, 2, 0, 1, 0, 1);
    coordinates("C", 0, 1, 0, 1, -1, 0, 0, 2, 0, 1);
    coordinates("D", 0, 1, 0, 1, 0, 1, -1, 0, 0, 2);
  }

  /** "from the first to the last letter": of words of sixteen letters. */
  private static void coordinatesOfSixteenLetters() {
    coordinates("aBaBaBaBaBaBaBaB", 1, -1595, -1597, -986, 0, 2584, 0, 1, 0, 1);
    coordinates("aBcDaBcDaBcDaBcD", 1, -59, -61, -130, 192, -196, -389, -110, 0, 500);
    coordinates("dABAAbdcDcdBaaba", 0, 1, 3, -25, -12, 14, 8, 5, 0, 10);
    coordinates("ABAAAAbcDccccBba", 0, 1, -1, -3, 5, -44, -6, 44, 0, 7);
    coordinates("BaBaBaBaBaBaBaBa", 1, -2582, -1596, 988, 0, 1597, 0, 1, 0, 1);
    coordinates("DDDDDDDDdCbAaBcD", 0, 1, 0, 1, 0, 1, -1, -7, 0, 9);
  }

  /** "the number of the coordinate: 0 for x1, ... to 9 for y5". */
  private static void noSuchCoordinate() {
    Still.Past past = () -> Still.busyWithText("", "abcd");
    Still.refuses("18 coordinate -1", WRONG, past, c -> c.coordinate(1, -1));
    Still.refuses("18 coordinate 10", WRONG, past, c -> c.coordinate(1, 10));
    Still.refuses("18 coordinate 10 of no letter", WRONG, past, c -> c.coordinate(0, 10));
    BraidCourt court = past.make();
    for (int coordinate : FAR) {
      Check.refuses("18 coordinate " + coordinate, WRONG, () -> court.coordinate(1, coordinate));
    }
    Check.answers("18 coordinate 0", 1L, () -> court.coordinate(1, 0));
    Check.answers("18 coordinate 9", 5L, () -> court.coordinate(1, 9));
  }

  /** "The empty word is the trivial braid." */
  private static void emptyWordIsTrivial() {
    BraidCourt court = Check.court("", "", "d");
    Check.answers("19 the empty word", true, () -> court.isTrivial(0));
    Check.answers("19 one letter", false, () -> court.isTrivial(2));
    Check.answers("20 two empty words", true, () -> court.areEqual(0, 1));
    Check.answers("21 two empty words", true, () -> court.areEqualByCoordinates(0, 1));
    Check.answers("20 empty and one letter", false, () -> court.areEqual(0, 2));
    Check.answers("20 one letter and empty", false, () -> court.areEqual(2, 0));
    Check.answers("21 empty and one letter", false, () -> court.areEqualByCoordinates(0, 2));
    Check.answers("22 two empty words", 0, () -> court.compare(0, 1));
    Check.answers("23 two empty words", 0, () -> court.compareByCoordinates(0, 1));
  }

  /** "Returns whether the relaxed word is empty": also of sixteen letters. */
  private static void trivialWords() {
    String[] words = {"aA", "Dd", "abaBAB", "acAC", "abcdabcdDCBADCBA", "bcbdCBCDbB",
        "adacdADACDdDaAbB", "aaBBAAbb"};
    BraidCourt court = Check.court(words);
    boolean[] trivial = {true, true, true, true, true, false, true, false};
    for (int i = 0; i < words.length; i++) {
      int number = i;
      Check.answers("19 isTrivial " + words[i], trivial[i], () -> court.isTrivial(number));
      Check.same("19 the word stays", words[i], Check.word(court, i));
    }
  }

  /** Whether two words are equal, by every call that tells it, and in both orders. */
  private static void equal(boolean due, String one, String other) {
    BraidCourt court = Check.court(one, other);
    for (int first = 0; first < 2; first++) {
      int i = first;
      int j = 1 - first;
      String what = " " + (i == 0 ? one + " and " + other : other + " and " + one);
      Check.answers("20 areEqual" + what, due, () -> court.areEqual(i, j));
      Check.answers("21 areEqualByCoordinates" + what, due,
          () -> court.areEqualByCoordinates(i, j));
      Check.answers("22 compare" + what, due, () -> court.compare(i, j) == 0);
      Check.answers("23 compareByCoordinates" + what, due,
          () -> court.compareByCoordinates(i, j) == 0);
    }
    court.decide(0);
    court.decide(1);
    Check.same("25 precedents of " + one + " and " + other, due ? 1 : 2, court.precedentCount());
  }

  /** "inserting and removing a letter next to its inverse". */
  private static void insertedPairs() {
    for (char letter : "abcdABCD".toCharArray()) {
      equal(true, "", "" + letter + PlainCourt.inverse(letter));
      equal(true, "bc", "b" + letter + PlainCourt.inverse(letter) + "c");
      equal(false, "", "" + letter + letter);
      equal(false, "", "" + letter);
    }
    equal(true, "", "aAaAaAaAaAaAaAaA");
  }

  /** "exchanging two adjacent letters whose indices differ by at least 2". */
  private static void exchangedLetters() {
    for (String pair : new String[] {"ac", "bd", "ad", "aC", "Bd", "aD", "AC", "BD", "AD"}) {
      equal(true, pair, "" + pair.charAt(1) + pair.charAt(0));
    }
    for (String pair : new String[] {"ab", "bc", "cd", "aB", "Bc", "cD", "AB", "BC", "CD"}) {
      equal(false, pair, "" + pair.charAt(1) + pair.charAt(0));
    }
  }

  /** "replacing three adjacent letters xyx by yxy, where x and y have the same sign ..." */
  private static void replacedTriples() {
    equal(true, "aba", "bab");
    equal(true, "bcb", "cbc");
    equal(true, "cdc", "dcd");
    equal(true, "ABA", "BAB");
    equal(true, "BCB", "CBC");
    equal(true, "CDC", "DCD");
    equal(false, "aBa", "BaB");
    equal(false, "cDc", "DcD");
    equal(false, "aca", "cac");
    equal(false, "bdb", "dbd");
    equal(false, "ada", "dad");
    equal(false, "aba", "BAB");
    equal(false, "abab", "baba");
  }

  /** "the number of a case, possibly the same". */
  private static void sameCaseTwice() {
    String[] words = {"", "a", "D", "aBaBCDDDCCbbbAba", "ABAAAAbcDccccBba", "aBcDaBcDaBcDaBcD"};
    BraidCourt court = Check.court(words);
    for (int i = 0; i < words.length; i++) {
      int number = i;
      Check.answers("20 same " + i, true, () -> court.areEqual(number, number));
      Check.answers("21 same " + i, true, () -> court.areEqualByCoordinates(number, number));
      Check.answers("22 same " + i, 0, () -> court.compare(number, number));
      Check.answers("23 same " + i, 0, () -> court.compareByCoordinates(number, number));
    }
  }

  private static void less(String lesser, String greater) {
    BraidCourt court = Check.court(lesser, greater);
    String what = " " + lesser + " is less than " + greater;
    Check.answers("22" + what, 1, () -> court.compare(0, 1));
    Check.answers("22 exchanged:" + what, -1, () -> court.compare(1, 0));
    Check.answers("23" + what, 1, () -> court.compareByCoordinates(0, 1));
    Check.answers("23 exchanged:" + what, -1, () -> court.compareByCoordinates(1, 0));
    Check.answers("24" + what, 0, () -> court.caseByBraid(0));
    BraidCourt other = Check.court(greater, lesser);
    Check.answers("24 exchanged:" + what, 1, () -> other.caseByBraid(0));
  }

  /** "the product of the inverse of the first word and the second word". */
  private static void inverseOfTheFirst() {
    less("b", "a");
    less("a", "ba");
    less("bA", "b");
    less("aB", "a");
    // The product of the second word and the inverse of the first one has the sign -1 for these.
    less("ab", "aa");
    less("ab", "ba");
    less("cd", "dc");
    less("Ab", "bA");
    less("Dc", "cD");
    less("bc", "cb");
    less("DC", "CD");
  }

  /** "The sign of a word is 0 if it is equal to the trivial braid." */
  private static void signOfTrivial() {
    String[] words = {"", "aA", "abaBAB", "acAC", "abcdDCBA"};
    BraidCourt court = Check.court(words);
    for (int i = 0; i < words.length; i++) {
      for (int j = 0; j < words.length; j++) {
        int first = i;
        int second = j;
        Check.answers("22 " + words[i] + " and " + words[j], 0,
            () -> court.compare(first, second));
        Check.answers("23 " + words[i] + " and " + words[j], 0,
            () -> court.compareByCoordinates(first, second));
      }
      int number = i;
      court.decide(i);
      Check.answers("24 rank of equal braids", number, () -> court.caseByBraid(number));
    }
    Check.answers("26 the trivial braid is not less than itself", 0, () -> court.appeal(0));
  }

  /** "the sign of the letters with the least index in the relaxed word". */
  private static void signByLeastIndex() {
    for (String positive : new String[] {"a", "b", "c", "d", "aBBBB", "BBBBa", "BabCD", "bCCC",
        "CCCb", "cDDD", "DDDc", "abA", "aB", "DCBAaaBCD"}) {
      less("", positive);
    }
    for (String negative : new String[] {"A", "B", "C", "D", "Abbbb", "bbbbA", "bABcd", "Bccc",
        "cccB", "Cddd", "dddC", "aBA", "dcbaAAbcd"}) {
      less(negative, "");
    }
  }

  /** Words of sixteen letters, whose product has 32, can be compared as well. */
  private static void productsOfThirtyTwoLetters() {
    // On the way these have up to 134 letters, or reduce up to 857 handles.
    for (String product : new String[] {"AbAbbCdbCCBaDBcBcDaBcaBcDcbaAaAa",
        "aaBaBaBCCdCbAAbAbAbccDcBBaBAaAaA", "aabCbdCbCAbdCbCAdbCbACbdCABBAaAa",
        "abcaaaaadaBacccaacBBBBBBBBcBDCBA", "abaaaaacdaBaaBCbbbbADACAAAAAAABA"}) {
      String first = PlainCourt.inverse(product.substring(0, 16));
      String second = product.substring(16);
      int sign = PlainCourt.signOfRelaxed(PlainCourt.relaxed(product));
      BraidCourt court = Check.court(first, second);
      Check.answers("20 areEqual, " + product, false, () -> court.areEqual(0, 1));
      Check.answers("21 equal, " + product, false, () -> court.areEqualByCoordinates(0, 1));
      Check.answers("22 compare, " + product, sign, () -> court.compare(0, 1));
      Check.answers("23 compare, " + product, sign, () -> court.compareByCoordinates(0, 1));
      Check.answers("38 isConsistent, " + product, true, court::isConsistent);
    }
  }

  /** "Returns the case at a rank in ascending order of the braids": all eight ranks. */
  private static void ranks() {
    BraidCourt court = Check.court("d", "A", "a", "D", "", "c", "B", "b");
    int[] order = {1, 6, 3, 4, 0, 5, 7, 2};
    for (int i = 0; i < 8; i++) {
      int rank = i;
      Check.answers("24 rank " + i, order[i], () -> court.caseByBraid(rank));
    }
  }

  /** "of equal braids, the case with the lower number comes first". */
  private static void ranksOfEqualBraids() {
    BraidCourt court = Check.court("bab", "", "aba", "A", "cC", "baa", "aA", "A");
    int[] order = {3, 7, 1, 4, 6, 0, 2, 5};
    for (int i = 0; i < 8; i++) {
      int rank = i;
      Check.answers("24 rank of equal braids " + i, order[i], () -> court.caseByBraid(rank));
    }
  }

  /** "Throws NoSuchElementException if there is no such rank". */
  private static void noSuchRank() {
    Still.refuses("24 no case", NO_ELEMENT, BraidCourt::new, c -> c.caseByBraid(0));
    Still.Past past = () -> Still.busyWithText("a", "A");
    Still.refuses("24 rank -1", NO_ELEMENT, past, c -> c.caseByBraid(-1));
    Still.refuses("24 rank 2", NO_ELEMENT, past, c -> c.caseByBraid(2));
    BraidCourt court = past.make();
    for (int rank : FAR) {
      Check.refuses("24 rank " + rank, NO_ELEMENT, () -> court.caseByBraid(rank));
    }
    Check.answers("24 rank 0", 1, () -> court.caseByBraid(0));
    Check.answers("24 rank 1", 0, () -> court.caseByBraid(1));
    Still.Past full = () -> Check.court("", "", "", "", "", "", "", "a");
    Check.answers("24 rank 7 of eight", 7, () -> full.make().caseByBraid(7));
    Still.refuses("24 rank 8 of eight", NO_ELEMENT, full, c -> c.caseByBraid(8));
  }

  /** These calls are not changes, and leave everything as it was. */
  private static void queriesChangeNothing() {
    BraidCourt asked = Still.busyWithText("abA", "Bab", "");
    asked.decide(0);
    String before = Still.look(asked);
    asked.writhe(0);
    asked.strandEnd(0, 1);
    asked.closedThreads(0);
    asked.crossings(0, 1, 2);
    asked.coordinate(0, 3);
    asked.isTrivial(1);
    asked.areEqual(0, 1);
    asked.areEqualByCoordinates(0, 1);
    asked.compare(0, 2);
    asked.compareByCoordinates(2, 0);
    asked.caseByBraid(1);
    asked.findPrecedent(1);
    asked.isConsistent();
    Check.same("14 to 24 change nothing", before, Still.look(asked));
  }
}
