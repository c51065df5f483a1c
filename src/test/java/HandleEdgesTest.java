import java.util.NoSuchElementException;

/** Handles and their reduction at their edges: each method tests one sentence of the document. */
final class HandleEdgesTest {
  private static final Class<NoSuchElementException> NO_ELEMENT = NoSuchElementException.class;

  private HandleEdgesTest() {
  }

  static void run() {
    noHandle();
    shortest();
    longest();
    noneOfTheSameIndex();
    noneOfTheIndexBelow();
    otherIndicesBetween();
    theOneThatEndsFirst();
    lettersThatAreCut();
    removesFirstAndLast();
    replacesTheIndexAbove();
    leavesOtherIndices();
    replacesSeveral();
    endsFirstIsReducedFirst();
    untilThereIsNone();
  }

  private static void handle(String word, int begin, int end) {
    BraidCourt court = Check.court("cC", word);
    Check.answers("10 hasHandle " + word, true, () -> court.hasHandle(1));
    Check.answers("11 handleBegin " + word, begin, () -> court.handleBegin(1));
    Check.answers("12 handleEnd " + word, end, () -> court.handleEnd(1));
    Check.same("10 the word stays " + word, word, Check.word(court, 1));
  }

  private static void none(String word) {
    BraidCourt court = Check.court("cC", word);
    Check.answers("10 hasHandle " + word, false, () -> court.hasHandle(1));
    Check.refuses("11 handleBegin " + word, NO_ELEMENT, () -> court.handleBegin(1));
    Check.refuses("12 handleEnd " + word, NO_ELEMENT, () -> court.handleEnd(1));
    Check.answers("6 nothing to reduce in " + word, 0, () -> court.relax(1));
    Check.same("6 the word stays " + word, word, Check.word(court, 1));
  }

  /** Moves the letters of a word by some indices. */
  private static String moved(String word, int by) {
    StringBuilder moved = new StringBuilder();
    for (char letter : word.toCharArray()) {
      moved.append((char) (letter + by));
    }
    return moved.toString();
  }

  /** The word with the opposite signs. */
  private static String mirrored(String word) {
    StringBuilder mirrored = new StringBuilder();
    for (char letter : word.toCharArray()) {
      mirrored.append(PlainCourt.letter(PlainCourt.index(letter), -PlainCourt.sign(letter)));
    }
    return mirrored.toString();
  }

  private static void relaxes(String word, String relaxed, int handles) {
    BraidCourt court = Check.court(word, mirrored(word));
    Check.answers("6 relax " + word, handles, () -> court.relax(0));
    Check.same("6 relaxed " + word, relaxed, Check.word(court, 0));
    Check.answers("6 relax the mirrored " + word, handles, () -> court.relax(1));
    Check.same("6 relaxed the mirrored " + word, mirrored(relaxed), Check.word(court, 1));
  }

  /** "Throws NoSuchElementException if there is no handle". */
  private static void noHandle() {
    Still.Past past = () -> Still.busyWithText("", "a", "aa", "abcdabcdabcdabcd", "baB");
    for (int i = 0; i < 5; i++) {
      int number = i;
      Still.refuses("11 no handle " + i, NO_ELEMENT, past, c -> c.handleBegin(number));
      Still.refuses("12 no handle " + i, NO_ELEMENT, past, c -> c.handleEnd(number));
      Check.answers("10 no handle " + i, false, () -> past.make().hasHandle(number));
    }
  }

  /** "begins with a letter of an index j, ends with the inverse of that letter": nothing else. */
  private static void shortest() {
    for (char letter : "abcdABCD".toCharArray()) {
      char inverse = PlainCourt.inverse(letter);
      handle("" + letter + inverse, 0, 1);
      handle("aaaaaaaaaaaaaa".replace('a', letter) + letter + inverse, 14, 15);
      none("" + letter);
      none("" + letter + letter);
      none("aaaaaaaaaaaaaaaa".replace('a', letter));
    }
    for (String pair : new String[] {"aB", "Ab", "bA", "Cd", "dC", "aD", "Ac"}) {
      none(pair);
    }
  }

  /** A handle of sixteen letters: it begins at the first position and ends at the last one. */
  private static void longest() {
    handle("abbbbbbbbbbbbbbA", 0, 15);
    handle("Acdcdbddbbbbbbba", 0, 15);
    handle("Daaaaaaaaaaaaaad", 0, 15);
    handle("baaaaaaaaaaaaaaA", 14, 15);
  }

  /** "have between them no letter of the index j". */
  private static void noneOfTheSameIndex() {
    handle("aaA", 1, 2);
    handle("abaA", 2, 3);
    handle("aacA", 1, 3);
    handle("bdbcB", 2, 4);
    none("bcbcb");
    none("aba");
    handle("caaaC", 0, 4);
  }

  /** "and none of the index j minus 1". */
  private static void noneOfTheIndexBelow() {
    for (String word : new String[] {"baB", "bAB", "bcaB", "cbC", "cBC", "cbdC", "dcD", "dCD",
        "dacD", "baaB", "dcaD", "Bab", "CBc", "Dcd"}) {
      none(word);
    }
  }

  /** Letters of all other indices may be between the two. */
  private static void otherIndicesBetween() {
    for (String word : new String[] {"abA", "acA", "adA", "aBA", "bcB", "bdB", "bDB", "cdC",
        "caC", "cAC", "daD", "dbD", "dBD", "Aba", "Cac", "Dbd"}) {
      handle(word, 0, 2);
    }
    handle("abcdcbA", 0, 6);
    handle("bcdcB", 0, 4);
    handle("cadaC", 0, 4);
    handle("dabaD", 0, 4);
  }

  /** "the handle ... that ends first": not the one that begins first. */
  private static void theOneThatEndsFirst() {
    handle("abBA", 1, 2);
    handle("abBAcC", 1, 2);
    handle("acbdDA", 3, 4);
    handle("aBcCbA", 2, 3);
    handle("abAcC", 0, 2);
    handle("cCabA", 0, 1);
    handle("abcAC", 0, 3);
    handle("dabADd", 1, 3);
    handle("aAaA", 0, 1);
  }

  /** A word ends where its last letter is, whatever was behind it. */
  private static void lettersThatAreCut() {
    BraidCourt court = Check.court("abA");
    court.cutLast(0);
    Check.answers("10 without its last letter", false, () -> court.hasHandle(0));
    Check.refuses("12 without its last letter", NO_ELEMENT, () -> court.handleEnd(0));
    Check.answers("13 without its last letter", 2, () -> court.relaxedLength(0));
    court.cross(0, 'a');
    Check.answers("10 with another one", false, () -> court.hasHandle(0));
    court.undo();
    court.undo();
    Check.answers("12 with its last letter again", 2, () -> court.handleEnd(0));
  }

  /** "To reduce a handle means to remove its first and its last letter". */
  private static void removesFirstAndLast() {
    for (int by = 0; by < 4; by++) {
      relaxes(moved("aA", by), "", 1);
      relaxes(moved("aaA", by), moved("a", by), 1);
    }
    relaxes("cacC", "ca", 1);
    relaxes("DcCD", "DD", 1);
  }

  /** The letter of the index j plus 1 between them becomes three letters. */
  private static void replacesTheIndexAbove() {
    for (int by = 0; by < 3; by++) {
      relaxes(moved("abA", by), moved("Bab", by), 1);
      relaxes(moved("aBA", by), moved("BAb", by), 1);
      relaxes(moved("Aba", by), moved("baB", by), 1);
      relaxes(moved("ABa", by), moved("bAB", by), 1);
    }
  }

  /** Only the letters of the index j plus 1 are replaced. */
  private static void leavesOtherIndices() {
    relaxes("acA", "c", 1);
    relaxes("adA", "d", 1);
    relaxes("aCDA", "CD", 1);
    relaxes("bdB", "d", 1);
    relaxes("caC", "a", 1);
    relaxes("daD", "a", 1);
    relaxes("dbD", "b", 1);
    relaxes("dabaD", "aba", 1);
    relaxes("abdA", "Babd", 1);
  }

  /** "to replace each letter y of the index j plus 1 between them". */
  private static void replacesSeveral() {
    // What replaces two letters b has the handle bB or bcB in its middle, which is reduced, too.
    relaxes("abbA", "Baab", 2);
    relaxes("abcbA", "BaCbcab", 2);
    relaxes("aBcBA", "BACbcAb", 2);
    relaxes("acbdA", "cBabd", 1);
  }

  /** "To relax a word means to reduce ... the handle that ends first". */
  private static void endsFirstIsReducedFirst() {
    // Were the handle from a to A reduced first, there would always be a next one.
    relaxes("abBA", "", 2);
    relaxes("abAAA", "BBBab", 3);
    relaxes("BabA", "BBab", 1);
    relaxes("CaDbcdcBbA", "CDCBaDCbDcdabcab", 6);
    relaxes("dABAAbdcDcdBaaba", "ddcbCdCbDCbd", 52);
    relaxes("ABAAAAbcDccccBba", "BBBDcBCdBccccc", 141);
  }

  /** "again and again, ... until there is none". */
  private static void untilThereIsNone() {
    for (String word : new String[] {"abAAA", "CaDbcdcBbA", "dABAAbdcDcdBaaba", "abaBAB", "acAC",
        "aAaAaAaAaAaAaAaA", "ABAAAAbcDccccBba"}) {
      BraidCourt court = Check.court(word);
      court.relax(0);
      Check.answers("6 relaxed, " + word + " has a handle", false, () -> court.hasHandle(0));
      Check.answers("6 relaxed, " + word + " relaxes again", 0, () -> court.relax(0));
    }
  }
}
