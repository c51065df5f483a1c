/** Texts and output lines at their edges: each method tests one sentence of the document. */
final class TextEdgesTest {
  private static final Class<IllegalArgumentException> WRONG = IllegalArgumentException.class;
  private static final Class<IndexOutOfBoundsException> NO_INDEX =
      IndexOutOfBoundsException.class;
  private static final String[] COMMANDS = {
    "open", "cross 0 a", "cut 0", "cancel 0", "relax 0", "decide 0", "appeal 0"
  };
  // Sixty characters and seven commands, for a court with three cases.
  private static final String SIXTY =
      "cross 1 a;cross 1 b;cross 1 C;decide 1;cancel 0;open;relax 0";

  private TextEdgesTest() {
  }

  static void run() {
    sixtyCharacters();
    fullBuffer();
    anyCharacter();
    emptyText();
    eachCommandAlone();
    endsTooEarly();
    endsAtTheSixtieth();
    endsWhereALongerTextWas();
    wrongCharacter();
    lettersOfTheOtherCase();
    digits();
    letters();
    oneSpace();
    semicolons();
    faultAtTheEnd();
    faultInTheSixtieth();
    nothingOfAWrongText();
    wrongBeforeDenied();
    allOrNone();
    causes();
    limitsInTexts();
    elevenCommands();
    oneAfterTheOther();
    emptyAfterwards();
    noFaultYet();
    faultKeptLast();
    shortestAndLongestCase();
    refusedCaseLine();
    relaxedLines();
    lineAtFirst();
    lineCharacters();
  }

  /** "The text buffer holds at most 60 characters." */
  private static void sixtyCharacters() {
    BraidCourt court = Check.court("", "");
    for (int i = 0; i < 60; i++) {
      char character = SIXTY.charAt(i);
      Check.answers("39 character " + (i + 1), i + 1, () -> court.feed(character));
    }
    Check.refuses("39 the next one", IllegalStateException.class, () -> court.feed(';'));
    Check.answers("40 sixty characters", 7, court::execute);
    Check.same("40 its word", "abC", Check.word(court, 1));
  }

  /** "Throws IllegalStateException if the buffer has 60 characters", and nothing changes. */
  private static void fullBuffer() {
    Still.Past past = () -> {
      BraidCourt court = Still.busy("", "", "d");
      for (char character : SIXTY.toCharArray()) {
        court.feed(character);
      }
      return court;
    };
    for (char character : new char[] {';', '0', 'a', 0, 65535}) {
      Still.refuses("39 the 61st, " + (int) character, IllegalStateException.class, past,
          c -> c.feed(character));
    }
    BraidCourt court = past.make();
    Check.refuses("39 the 61st", IllegalStateException.class, () -> court.feed('a'));
    Check.refuses("39 the 61st again", IllegalStateException.class, () -> court.feed('a'));
    Check.answers("40 the sixty are kept", 7, court::execute);
    Check.answers("39 and it is empty then", 1, () -> court.feed('a'));
  }

  /** "any character". */
  private static void anyCharacter() {
    BraidCourt court = new BraidCourt();
    int length = 0;
    for (char character : new char[] {0, 1, '\n', ' ', 127, 128, 255, 256, 32767, 32768, 55296,
        57343, 65534, 65535}) {
      length++;
      Check.answers("39 character " + (int) character, length, () -> court.feed(character));
    }
    Check.refuses("40 they match nothing", WRONG, court::execute);
    Check.answers("41 not even the first", 0, court::faultPosition);
  }

  /** "or the length of the text if it ends too early": at once. */
  private static void emptyText() {
    Still.misfits("40 an empty text", 0, () -> Still.busy("ab"), "");
    Still.misfits("40 an empty text in a new court", 0, BraidCourt::new, "");
  }

  /** Every command of the grammar, which does what its method does. */
  private static void eachCommandAlone() {
    String[] words = {"abA", "abA", "abA", "aAb", "abA", "abA", "a"};
    String[] due = {"abA", "abAa", "ab", "b", "Bab", "abA", "a"};
    for (int i = 0; i < COMMANDS.length; i++) {
      BraidCourt court = Check.court(words[i]);
      if (i == 6) {
        court.decide(0);
      }
      int before = court.undoCount();
      String command = COMMANDS[i];
      Check.answers("40 " + command, 1, () -> Check.execute(court, command));
      Check.same("40 the word after " + command, due[i], Check.word(court, 0));
      Check.same("40 cases after " + command, i == 0 ? 2 : 1, court.caseCount());
      Check.same("40 decided after " + command, i >= 5, court.isDecided(0));
      Check.same("40 tangled after " + command, i == 5, court.isTangled(0));
      Check.same("49 one change by " + command, before + 1, court.undoCount());
      Check.same("40 no fault by " + command, "none", Still.fault(court));
      Check.same("40 no denial by " + command, "none", Still.denial(court));
    }
  }

  private static void fault(String text, int position) {
    BraidCourt court = Check.court("a");
    Check.refuses("40 \"" + text + "\"", WRONG, () -> Check.execute(court, text));
    Check.answers("41 \"" + text + "\"", position, court::faultPosition);
  }

  /** "the length of the text if it ends too early": every beginning of every command. */
  private static void endsTooEarly() {
    for (String command : COMMANDS) {
      for (int length = 0; length < command.length(); length++) {
        fault(command.substring(0, length), length);
        fault("open;" + command.substring(0, length), 5 + length);
      }
      fault(command + ";", command.length() + 1);
    }
  }

  /** "the length of the text if it ends too early", if the buffer is full there. */
  private static void endsAtTheSixtieth() {
    for (String command : COMMANDS) {
      for (int length = 0; length < command.length(); length++) {
        StringBuilder text = new StringBuilder();
        while ((60 - length - text.length()) % 5 != 0) {
          text.append("cut 0;");
        }
        while (text.length() < 60 - length) {
          text.append("open;");
        }
        fault(text + command.substring(0, length), 60);
      }
    }
  }

  /** The text ends at its end, whatever was behind it in an earlier text. */
  private static void endsWhereALongerTextWas() {
    for (String command : COMMANDS) {
      for (int length = 0; length < command.length(); length++) {
        String begun = command.substring(0, length);
        BraidCourt court = Check.court("ab");
        try {
          Check.execute(court, command + ";" + command);
        } catch (UnsupportedOperationException denied) {
          Check.same("40 " + command + " twice is denied", 7, court.denial());
        }
        String before = Still.look(court);
        Check.refuses("40 " + begun, WRONG, () -> Check.execute(court, begun));
        Check.answers("41 " + begun, length, court::faultPosition);
        Check.same("40 nothing is done by " + begun, before, Still.look(court));
      }
    }
    BraidCourt court = Check.court("");
    Check.answers("40 three commands", 3, () -> Check.execute(court, "open;open;open"));
    Check.answers("40 then one", 1, () -> Check.execute(court, "open"));
    Check.same("40 five cases", 5, court.caseCount());
  }

  /** "the index of the first character that cannot continue any such text": every index. */
  private static void wrongCharacter() {
    for (String command : COMMANDS) {
      for (int at = 0; at <= command.length(); at++) {
        String begun = command.substring(0, at);
        fault(begun + "?", at);
        fault(begun + "?" + command.substring(at), at);
        fault("cut 0;" + begun + (char) 0 + ";open", 6 + at);
        if (at < command.length()) {
          // A character that differs by 256 is another one.
          fault(begun + (char) (command.charAt(at) + 256) + command.substring(at + 1), at);
        }
      }
    }
    fault("ct 0", 1);
    fault("crut 0", 2);
    fault("crosscut 0", 5);
    fault("cutcel 0", 3);
    fault("cancut 0", 4);
    fault("acpeal 0", 1);
    fault("delax 0", 2);
    fault("recide 0", 2);
    fault("x", 0);
  }

  /** The terminals are in lower case, but for the letters of words. */
  private static void lettersOfTheOtherCase() {
    for (String command : COMMANDS) {
      String name = command.split(" ")[0];
      for (int at = 0; at < name.length(); at++) {
        char upper = Character.toUpperCase(command.charAt(at));
        fault(command.substring(0, at) + upper + command.substring(at + 1), at);
      }
    }
  }

  /** A digit is one of "0" to "9", and exactly one. */
  private static void digits() {
    for (String command : COMMANDS) {
      if (command.equals("open")) {
        continue;
      }
      int at = command.indexOf('0');
      for (char wrong : new char[] {'/', ':', '-', '+', 'a', '0' + 256, 1632, 65296}) {
        fault(command.replace('0', wrong), at);
      }
      fault(command.replace("0", "00"), at + 1);
      fault(command.replace("0", "12"), at + 1);
      fault(command.replace("0", "-1"), at);
      for (char digit = '0'; digit <= '9'; digit++) {
        String text = "open;" + command.replace('0', digit);
        BraidCourt court = new BraidCourt();
        try {
          Check.execute(court, text);
        } catch (UnsupportedOperationException denied) {
          Check.same("40 which fails: " + text, 1, court.denialDetail());
        }
        Check.same("40 no fault in " + text, "none", Still.fault(court));
      }
    }
    BraidCourt court = Check.court("", "", "", "", "", "", "", "");
    Check.answers("40 the digit 7", 1, () -> Check.execute(court, "cross 7 d"));
    Check.same("40 case 7", "d", Check.word(court, 7));
    Check.denies("40 the digit 8", court, "7 0 8", () -> Check.execute(court, "cross 8 d"));
    Check.denies("40 the digit 9", court, "7 0 8", () -> Check.execute(court, "cross 9 d"));
  }

  /** "letter": one of eight, and exactly one. */
  private static void letters() {
    BraidCourt court = Check.court("");
    for (char letter : "abcdABCD".toCharArray()) {
      Check.answers("40 cross " + letter, 1, () -> Check.execute(court, "cross 0 " + letter));
    }
    Check.same("40 the eight letters", "abcdABCD", Check.word(court, 0));
    for (char wrong : new char[] {'`', 'e', '@', 'E', '0', ' ', ';', 'a' + 256, 'D' + 256}) {
      fault("cross 0 " + wrong, 8);
    }
    fault("cross 0 aa", 9);
    fault("cross 0 a b", 9);
  }

  /** "a space in a terminal is exactly one space". */
  private static void oneSpace() {
    for (String command : COMMANDS) {
      for (int at = command.indexOf(' '); at >= 0; at = command.indexOf(' ', at + 1)) {
        String before = command.substring(0, at);
        String behind = command.substring(at + 1);
        fault(before + "  " + behind, at + 1);
        fault(before + behind, at);
        fault(before + "\t" + behind, at);
        fault(before + (char) 160 + behind, at);
        fault(before + "_" + behind, at);
      }
      fault(" " + command, 0);
      fault(command + " ", command.length());
      fault("open; " + command, 5);
      fault(command + " ;open", command.length());
    }
  }

  /** "command { ";" command }": exactly one between two commands. */
  private static void semicolons() {
    for (String command : COMMANDS) {
      int length = command.length();
      fault(";" + command, 0);
      fault(command + ";;open", length + 1);
      fault(command + ",open", length);
      fault(command + ":open", length);
      fault(command + "open", length);
      fault(command + "\n", length);
    }
    fault(";", 0);
    fault(";;", 0);
  }

  /** The fault position is at most 60: a text of sixty characters that ends too early. */
  private static void faultAtTheEnd() {
    fault("open;open;open;open;open;open;open;open;open;open;open;open;", 60);
    fault("cut 0;cut 0;cut 0;cut 0;cut 0;cut 0;cut 0;cut 0;cut 0;open;c", 60);
    fault("cut 0;cut 0;cut 0;cut 0;cut 0;cut 0;cut 0;cut 0;cut 0;cut 0;", 60);
  }

  /** A wrong character in the sixtieth place. */
  private static void faultInTheSixtieth() {
    fault("open;open;open;open;open;open;open;open;open;open;open;open,", 59);
    fault(SIXTY.substring(0, 59) + "a", 59);
    fault(SIXTY.substring(0, 59) + ":", 59);
  }

  /** "either all of them or none": a text that does not match executes nothing. */
  private static void nothingOfAWrongText() {
    Still.Past past = () -> Still.busy("abA", "", "c");
    Still.misfits("40 wrong at the end", 10, past, "open;open;x");
    Still.misfits("40 cut off at the end", 17, past, "cross 0 b;decide ");
    Still.misfits("40 wrong behind six", 43, past, "open;cut 0;cancel 0;relax 0;cross 1 a;open;");
  }

  /** IllegalArgumentException is documented before UnsupportedOperationException. */
  private static void wrongBeforeDenied() {
    Still.Past past = () -> Still.busy("ab");
    Still.misfits("40 a failing command, then a wrong one", 6, past, "cut 9;x");
    Still.misfits("40 a failing command, then none", 6, past, "cut 9;");
  }

  /** "either all of them or none": at the first command, in the middle, at the last one. */
  private static void allOrNone() {
    Still.Past past = () -> Still.busy("abA", "", "c");
    Still.fails("40 the first", "7 0 4", past, "cut 1;open");
    Still.fails("40 the second", "7 1 4", past, "open;cut 1;open");
    Still.fails("40 the fourth", "7 3 4", past, "cut 0;cut 0;cut 0;cut 0");
    Still.fails("40 each kind", "7 7 2", past,
        "open;cross 1 a;cut 1;cancel 0;relax 2;decide 2;cut 0;cut 2");
    Still.fails("40 verdicts", "7 3 6", past, "decide 0;decide 1;appeal 0;appeal 0");
    Still.fails("40 the eleventh", "7 10 4", () -> Still.busy("abc"),
        "open;open;open;open;open;open;open;cut 0;cut 0;cut 0;cut 0");
    Still.fails("40 the ninth of twelve", "7 8 1", BraidCourt::new,
        "open;open;open;open;open;open;open;open;open;open;open;open");
  }

  /** "Denial 7: a command of a text failed; the detail is the index of the command, from 0." */
  private static void causes() {
    Still.Past past = () -> {
      BraidCourt court = Still.busy("a", "", "AbCCDcBcba", "abcdabcdabcdabcd", "A");
      court.decide(0);
      court.decide(4);
      court.appeal(4);
      return court;
    };
    Still.fails("47 cause 1, cross", "7 0 1", past, "cross 3 a");
    Still.fails("47 cause 2, cross", "7 0 2", past, "cross 0 a");
    Still.fails("47 cause 2, cut", "7 0 2", past, "cut 0");
    Still.fails("47 cause 2, cancel", "7 0 2", past, "cancel 0");
    Still.fails("47 cause 2, relax", "7 0 2", past, "relax 0");
    Still.fails("47 cause 2, decide", "7 0 2", past, "decide 0");
    Still.fails("47 cause 3", "7 0 3", past, "appeal 1");
    Still.fails("47 cause 4", "7 0 4", past, "cut 1");
    Still.fails("47 cause 5", "7 0 5", past, "relax 2");
    Still.fails("47 cause 6", "7 0 6", past, "appeal 4");
    for (String command : COMMANDS) {
      if (!command.equals("open")) {
        Still.fails("47 cause 8, " + command, "7 0 8", past, command.replace('0', '5'));
        Still.fails("47 cause 8, " + command, "7 1 8", past,
            "open;" + command.replace('0', '9'));
      }
    }
    Still.fails("47 cause 1, open", "7 0 1", () -> Still.busy("", "", "", "", "", "", "", ""),
        "open");
  }

  /** Denial 1 by the commands of one text: the ninth case, the seventeenth letter. */
  private static void limitsInTexts() {
    Still.fails("40 the ninth case", "7 8 1", BraidCourt::new,
        "open;open;open;open;open;open;open;open;open");
    BraidCourt court = new BraidCourt();
    Check.answers("40 eight cases", 8,
        () -> Check.execute(court, "open;open;open;open;open;open;open;open"));
    Still.Past past = () -> Still.busy("abcdabcdabcdab");
    Still.fails("40 the seventeenth letter", "7 2 1", past, "cross 0 a;cross 0 b;cross 0 c");
    BraidCourt full = past.make();
    Check.answers("40 sixteen letters", 2, () -> Check.execute(full, "cross 0 a;cross 0 b"));
    Check.same("40 sixteen letters", 16, full.wordLength(0));
  }

  /** "Returns the number of commands": eleven of them go through at most. */
  private static void elevenCommands() {
    BraidCourt court = Check.court("abcd");
    Check.answers("40 eleven commands", 11, () -> Check.execute(court,
        "open;open;open;open;open;open;open;cut 0;cut 0;cut 0;cut 0"));
    Check.same("40 eight cases", 8, court.caseCount());
    Check.same("40 no letter", 0, court.wordLength(0));
    Check.same("49 they are one change", 6, court.undoCount());
    Check.answers("48 undone at once", 5, court::undo);
    Check.same("48 one case", 1, court.caseCount());
    Check.same("48 its letters", "abcd", Check.word(court, 0));
  }

  /** "executes its commands in their order": later ones see what earlier ones did. */
  private static void oneAfterTheOther() {
    BraidCourt court = new BraidCourt();
    Check.answers("40 in their order", 5,
        () -> Check.execute(court, "open;cross 0 a;decide 0;appeal 0;open"));
    Check.same("40 the appeal succeeded", false, court.isTangled(0));
    Still.fails("40 not in another order", "7 0 8", BraidCourt::new, "cross 0 a;open");
    Still.fails("40 decided by the text", "7 2 2", BraidCourt::new, "open;decide 0;cut 0");
    Still.fails("40 appealed too early", "7 1 3", BraidCourt::new, "open;appeal 0;decide 0");
    BraidCourt equal = Check.court("aba", "bab");
    Check.answers("40 a precedent of the text", 2,
        () -> Check.execute(equal, "decide 1;decide 0"));
    Check.same("40 both rest on it", 2, equal.casesOn(0));
  }

  /** "The buffer is empty afterwards, even if an exception is thrown." */
  private static void emptyAfterwards() {
    BraidCourt court = Check.court("");
    Check.answers("40 executed", 1, () -> Check.execute(court, "open"));
    Check.answers("40 empty after that", 1, () -> court.feed('x'));
    Check.refuses("40 wrong", WRONG, court::execute);
    Check.answers("40 empty after a wrong text", 1, () -> court.feed('c'));
    Check.refuses("40 denied", UnsupportedOperationException.class,
        () -> Check.execute(court, "ut 0"));
    Check.answers("40 empty after a denied text", 1, () -> court.feed('o'));
    Check.answers("40 and it goes on from there", 1, () -> Check.execute(court, "pen"));
  }

  /** "Throws NoSuchElementException if none was kept yet". */
  private static void noFaultYet() {
    Still.Past past = () -> {
      BraidCourt court = Check.court("a");
      Check.execute(court, "open");
      Check.refuses("40 denied", UnsupportedOperationException.class,
          () -> Check.execute(court, "cut 1"));
      return court;
    };
    Still.refuses("41 none in a new court", java.util.NoSuchElementException.class,
        BraidCourt::new, BraidCourt::faultPosition);
    Still.refuses("41 none by texts that match", java.util.NoSuchElementException.class, past,
        BraidCourt::faultPosition);
  }

  /** "Returns the fault position that was kept last." */
  private static void faultKeptLast() {
    BraidCourt court = Check.court("a");
    Check.refuses("40 wrong", WRONG, () -> Check.execute(court, "open;x"));
    Check.answers("41 kept", 5, court::faultPosition);
    Check.answers("41 and again", 5, court::faultPosition);
    Check.execute(court, "open");
    Check.answers("41 kept behind a good text", 5, court::faultPosition);
    Check.refuses("40 denied", UnsupportedOperationException.class,
        () -> Check.execute(court, "open;cut 1"));
    Check.answers("41 kept behind a denied text", 5, court::faultPosition);
    Check.refuses("40 empty", WRONG, court::execute);
    Check.answers("41 the next one replaces it", 0, court::faultPosition);
  }

  /** "its letters, then ":" and "?" ..., "t" ..., or "f"": from 2 to 18 characters. */
  private static void shortestAndLongestCase() {
    BraidCourt court = Check.court("", "abcdABCDabcdABCD", "abAcD", "", "dcbaDCBAdcbaDCBA");
    caseLine(court, 0, ":?");
    caseLine(court, 1, "abcdABCDabcdABCD:?");
    caseLine(court, 2, "abAcD:?");
    court.decide(3);
    caseLine(court, 3, ":f");
    court.decide(4);
    caseLine(court, 4, "dcbaDCBAdcbaDCBA:t");
    court.undo();
    caseLine(court, 4, "dcbaDCBAdcbaDCBA:?");
  }

  private static void caseLine(BraidCourt court, int number, String line) {
    Check.answers("42 writeCase " + line, line.length(), () -> court.writeCase(number));
    Check.same("42 the line", line, Check.line(court, line.length()));
    Check.refuses("44 behind " + line, NO_INDEX, () -> court.lineCharacter(line.length()));
  }

  /** A call that is refused leaves the previous line. */
  private static void refusedCaseLine() {
    BraidCourt court = Check.court("ab");
    court.writeCase(0);
    Check.refuses("42 no case", NO_INDEX, () -> court.writeCase(1));
    Check.same("42 the line stays", "ab:?", Check.line(court, 4));
    Check.refuses("43 no case", NO_INDEX, () -> court.writeRelaxed(1));
    Check.same("43 the line stays", "ab:?", Check.line(court, 4));
    Check.refuses("44 and its end", NO_INDEX, () -> court.lineCharacter(4));
  }

  /** "Writes the relaxed word of a case as the output line, which replaces the previous one". */
  private static void relaxedLines() {
    BraidCourt court = Check.court("aBaBCDDDCCbbbAba", "", "abaBAB", "abA", "CaDbcdcBbA");
    String[] lines = {"cBadCbcDabCaBdcBCDaBcBadcDbCaBBCDCBcBCaB", "", "", "Bab",
        "CDCBaDCbDcdabcab"};
    court.decide(3);
    String before = Check.word(court, 0) + Check.word(court, 3);
    for (int number : new int[] {4, 0, 3, 1, 0, 2}) {
      String line = lines[number];
      Check.answers("43 writeRelaxed " + number, line.length(), () -> court.writeRelaxed(number));
      Check.same("43 the line", line, Check.line(court, line.length()));
      Check.refuses("44 behind it", NO_INDEX, () -> court.lineCharacter(line.length()));
    }
    Check.same("43 the cases stay", before, Check.word(court, 0) + Check.word(court, 3));
    caseLine(court, 3, "abA:t");
  }

  /** "the output line, which is initially empty". */
  private static void lineAtFirst() {
    for (int index : new int[] {0, -1, 1}) {
      Still.refuses("44 initially " + index, NO_INDEX, BraidCourt::new,
          c -> c.lineCharacter(index));
      Still.refuses("44 with cases " + index, NO_INDEX, () -> Check.court("a", "b"),
          c -> c.lineCharacter(index));
    }
  }

  /** "Throws IndexOutOfBoundsException if there is no such index". */
  private static void lineCharacters() {
    Still.Past past = () -> Still.busyWithText("abAcD");
    Check.answers("44 the first", 'a', () -> past.make().lineCharacter(0));
    Check.answers("44 the last", '?', () -> past.make().lineCharacter(6));
    for (int index : new int[] {-1, 7}) {
      Still.refuses("44 index " + index, NO_INDEX, past, c -> c.lineCharacter(index));
    }
    BraidCourt court = past.make();
    for (int index : new int[] {18, 256, 399, 400, 65536, Integer.MAX_VALUE, Integer.MIN_VALUE}) {
      Check.refuses("44 index " + index, NO_INDEX, () -> court.lineCharacter(index));
    }
  }
}
